-- the point of a walk: what stays (ga_C), what moves (ga_D)
abbrev ga_M0 : Type := MethodName × ByteArray × Nat × Option FieldType × List (Nat × Nat × Nat × Nat) × Option (Nat × (Nat → Int32))
abbrev ga_y (M : ga_M0) : MethodName := M.1
abbrev ga_b (M : ga_M0) : ByteArray := M.2.1
abbrev ga_n (M : ga_M0) : Nat := M.2.2.1
abbrev ga_r (M : ga_M0) : Option FieldType := M.2.2.2.1
abbrev ga_hh (M : ga_M0) : List (Nat × Nat × Nat × Nat) := M.2.2.2.2.1
abbrev ga_sc (M : ga_M0) : Option (Nat × (Nat → Int32)) := M.2.2.2.2.2
def ga_tys (tc : Nat → ClassId) : List (ClassId × FieldType) := [(tc 0, .int), (tc 1, .boolean), (tc 2, .double), (tc 3, .long)]
def ga_Z (A : Nat → Prop) (s : State) : Prop := vx_Zq Bundle.tN "UNASSIGNED_STACK" Bundle.steD A s s.heap ∧ vx_Zq Bundle.tN "SUPPRESSED_SENTINEL" Bundle.listD A s s.heap
def ga_ncp : List (String × String) := [("java/lang/IllegalStateException", "java/lang/IndexOutOfBoundsException"), ("java/lang/IllegalArgumentException", "java/lang/IndexOutOfBoundsException"), ("java/lang/IllegalArgumentException", "java/lang/IllegalStateException")]
def ga_Str (L : List (String × Nat × String)) (s : State) : Prop := (∀ q ∈ L, ∃ sa : Nat, vk_R q.1 q.2.1 q.2.2 sa s) ∧ ∀ q ∈ ga_ncp, va_Nc q.1 q.2 s
def ga_strs : List (String × Nat × String) := [("GraphCompare", 228, "no such side"), ("GraphCompare", 69, "no more nets"), ("GraphCompare", 76, "a name below 0"), ("GraphCompare", 89, "no such kind"), ("GraphCompare", 95, "no more devices"), ("GraphCompare", 99, "no such size"), ("GraphCompare", 112, "no such device"), ("GraphCompare", 117, "no such pin"), ("GraphCompare", 122, "no such net"), ("GraphCompare", 137, "no such share"), ("GraphCompare", 147, "the name of another port"), ("GraphCompare", 153, "no such rule"), ("GraphCompare", 164, "no such number of tries"), ("GraphCompare", 217, "no such difference"), ("GraphCompare", 219, "no such part of a difference")]
abbrev ga_Po : Type := Option ga_V → ga_H → Prop
abbrev ga_Px : Type := String → ga_H → Prop
/-- the heap's picture at a point -/
def ga_Pic (G : va_G) (tc : Nat → ClassId) (A : Nat → Prop) (H0 : Heap) (ad0 ad : Nat → Nat) (n0 : Nat) (h : ga_H) (H : Heap) (locs : List Loc) : Prop :=
  n0 ≤ h.length ∧ ga_ag n0 ad0 ad ∧ h.length ≤ 900000 ∧ ga_okh h ∧ va_P G vwCl (ga_w tc ad h) H ∧ va_D A (ga_w tc ad h) ∧ va_S A H0 H locs
/-- the instruction that leaves a method with v -/
def ga_R (M : ga_M0) (pc : Nat) : Option ga_V → Prop
  | none => decode (ga_b M) pc = .ok (.return_, 1) ∧ ga_r M = none
  | some (.inl x) => decode (ga_b M) pc = .ok (.ireturn, 1) ∧ ∃ ty, ga_r M = some ty ∧ narrow ty (.int (Int32.ofInt x)) = .int (Int32.ofInt x)
  | some (.inr (.inl _)) => decode (ga_b M) pc = .ok (.areturn, 1) ∧ ∃ rt, ga_r M = some rt ∧ ((∃ n, rt = .object n) ∨ ∃ t, rt = .array t)
  | some (.inr (.inr (.inl _))) => decode (ga_b M) pc = .ok (.dreturn, 1) ∧ ga_r M = some .double
  | some (.inr (.inr (.inr _))) => False
/-- the ends: what a return owes, what a throw owes -/
def ga_E (p : Program) (l : Launch) (e : Env) (R : Room) (s : State) (m : MethodId) (args : Array Value) (below : List Frame) (meth : Method) (c : Code) (G : va_G) (tc : Nat → ClassId) (A : Nat → Prop) (ad0 : Nat → Nat) (n0 : Nat) (Q : State → Prop) (mc ms : Nat) (M : ga_M0) (P : ga_Po) (X : ga_Px) : Prop :=
  (∀ (v : Option ga_V) (h : ga_H) (ad : Nat → Nat) (H : Heap) (locs : List Loc) (k n pc : Nat) (ls : Array Slot), P v h → ga_Pic G tc A s.heap ad0 ad n0 h H locs → (∀ x, v = some x → ga_ok h.length x) → k ≤ mc → n ≤ ms → ga_R M pc v →
    W p l e R s m args below meth c H locs k n Q (F0 m pc ls (v.toList.map (ga_v ad)))) ∧
  ((∀ E h, ¬ X E h) ∨ ∃ (Qc : Array Value → State → Outcome → State → Prop) (XC : String → State → State → Prop), Q = vx_MQ below Qc XC args s mc ms A ∧
    ∀ (E : String) (h : ga_H) (ad : Nat → Nat) (H : Heap) (locs : List Loc) (t : State), X E h → ga_Pic G tc A s.heap ad0 ad n0 h H locs → t.heap = H → s.vm.Alike t.vm → XC E s t)
def ga_C (p : Program) (l : Launch) (e : Env) (R : Room) (s : State) (m : MethodId) (args : Array Value) (below : List Frame) (meth : Method) (c : Code) (G : va_G) (tc : Nat → ClassId) (A : Nat → Prop) (ad0 : Nat → Nat) (n0 : Nat) (Q : State → Prop) (t mc ms : Nat) (M : ga_M0) (P : ga_Po) (X : ga_Px) : Prop :=
  p.tables.exec = Jvm.exec ∧ c.code = ga_b M ∧ c.maxLocals = ga_n M ∧ meth.sig.returnType = ga_r M ∧ s.vm.findClass (ga_y M).cls = some m.cls ∧ (∀ w ∈ ga_big, w.before args s = true) ∧ va_K G vwCl (ga_tys tc) s ∧
  (∀ q, s.heap.size ≤ q → A q) ∧ meth.locks = false ∧ ((ga_y M).name = "<init>" → meth.name = "<init>") ∧ l.stackTraces = false ∧ c.exceptionTable.toList = tableOf (ga_hh M) ∧ ga_Z A s ∧ ga_Str ga_strs s ∧
  (∀ L xs, ga_sc M = some (L, xs) → va_X (ad0 ga_scr) L xs s s.heap ∧ ad0 ga_scr < s.heap.size ∧ ¬ A (ad0 ga_scr)) ∧
  (R.cells = mc ∧ R.slots = ms ∧ t ≤ R.frames ∧ 35 * t ≤ R.locals) ∧ ga_E p l e R s m args below meth c G tc A ad0 n0 Q mc ms M P X
/-- from here the method comes to its end -/
def ga_W (t mc ms kc ks : Nat) (M : ga_M0) (P : ga_Po) (X : ga_Px) (pc : Nat) (lv : List (Option ga_V)) (st : List ga_V) (h : ga_H) : Prop :=
  ∀ (p : Program) (l : Launch) (e : Env) (R : Room) (s : State) (m : MethodId) (args : Array Value) (below : List Frame) (meth : Method) (c : Code) (G : va_G) (tc : Nat → ClassId) (A : Nat → Prop) (ad0 ad : Nat → Nat) (n0 : Nat) (H : Heap) (locs : List Loc) (ls : Array Slot) (Q : State → Prop),
    ga_C p l e R s m args below meth c G tc A ad0 n0 Q t mc ms M P X → ga_Pic G tc A s.heap ad0 ad n0 h H locs → lv_has ls (ga_n M) (ga_l ad 0 lv) → ga_okl h.length lv → ga_oks h.length st →
    W p l e R s m args below meth c H locs kc ks Q (F0 m pc ls (st.map (ga_v ad)))
theorem ga_oks.cons {n : Nat} {v : ga_V} {st : List ga_V} (hv : ga_ok n v) (h : ga_oks n st) : ga_oks n (v :: st) := fun w hw => by
  rcases List.mem_cons.mp hw with q | q
  · rw [q]; exact hv
  · exact h w q
theorem ga_oks.tail {n : Nat} {v : ga_V} {st : List ga_V} (h : ga_oks n (v :: st)) : ga_oks n st := fun w hw => h w (List.mem_cons_of_mem _ hw)
theorem ga_oks.head {n : Nat} {v : ga_V} {st : List ga_V} (h : ga_oks n (v :: st)) : ga_ok n v := h v List.mem_cons_self

section GaRules
variable {t mc ms kc ks : Nat} {M : ga_M0} {P : ga_Po} {X : ga_Px} {pc : Nat} {lv : List (Option ga_V)} {st : List ga_V} {h : ga_H}
theorem ga_iconst {n : Int} (hd : decode (ga_b M) pc = .ok (.iconst n, 1)) (hn : ga_inI n) (k : ga_W t mc ms kc ks M P X (pc + 1) lv (Vi n :: st) h) : ga_W t mc ms kc ks M P X pc lv (st) h := by
  intro p l e R s m args below meth c G tc A ad0 ad n0 H locs ls Q hC hP hl hol hos
  have hx := hC.1
  have hb := hC.2.1
  refine lv_iconst hx hb hd rfl ?_
  exact k p l e R s m args below meth c G tc A ad0 ad n0 H locs ls Q hC hP hl hol (ga_oks.cons (v := Vi n) hn hos)
theorem ga_bipush {n : Int} (hd : decode (ga_b M) pc = .ok (.bipush n, 2)) (hn : ga_inI n) (hv : (Int8.ofInt n).toInt32 = Int32.ofInt n) (k : ga_W t mc ms kc ks M P X (pc + 2) lv (Vi n :: st) h) : ga_W t mc ms kc ks M P X pc lv (st) h := by
  intro p l e R s m args below meth c G tc A ad0 ad n0 H locs ls Q hC hP hl hol hos
  have hx := hC.1
  have hb := hC.2.1
  refine lv_bipush hx hb hd hv ?_
  exact k p l e R s m args below meth c G tc A ad0 ad n0 H locs ls Q hC hP hl hol (ga_oks.cons (v := Vi n) hn hos)
theorem ga_sipush {n : Int} (hd : decode (ga_b M) pc = .ok (.sipush n, 3)) (hn : ga_inI n) (hv : (Int16.ofInt n).toInt32 = Int32.ofInt n) (k : ga_W t mc ms kc ks M P X (pc + 3) lv (Vi n :: st) h) : ga_W t mc ms kc ks M P X pc lv (st) h := by
  intro p l e R s m args below meth c G tc A ad0 ad n0 H locs ls Q hC hP hl hol hos
  have hx := hC.1
  have hb := hC.2.1
  refine lv_sipush hx hb hd hv ?_
  exact k p l e R s m args below meth c G tc A ad0 ad n0 H locs ls Q hC hP hl hol (ga_oks.cons (v := Vi n) hn hos)
theorem ga_lconst {n : Fin 2} {z : Int} (hd : decode (ga_b M) pc = .ok (.lconst n, 1)) (hn : ga_inL z) (hv : Int64.ofNat (n : Nat) = Int64.ofInt z) (k : ga_W t mc ms kc ks M P X (pc + 1) lv (Vl z :: st) h) : ga_W t mc ms kc ks M P X pc lv (st) h := by
  intro p l e R s m args below meth c G tc A ad0 ad n0 H locs ls Q hC hP hl hol hos
  have hx := hC.1
  have hb := hC.2.1
  refine lv_lconst hx hb hd hv ?_
  exact k p l e R s m args below meth c G tc A ad0 ad n0 H locs ls Q hC hP hl hol (ga_oks.cons (v := Vl z) hn hos)
theorem ga_dconst0  (hd : decode (ga_b M) pc = .ok (.dconst 0, 1)) (k : ga_W t mc ms kc ks M P X (pc + 1) lv (Vd FP.dconst0 :: st) h) : ga_W t mc ms kc ks M P X pc lv (st) h := by
  intro p l e R s m args below meth c G tc A ad0 ad n0 H locs ls Q hC hP hl hol hos
  have hx := hC.1
  have hb := hC.2.1
  refine lv_dconst0 hx hb hd ?_
  exact k p l e R s m args below meth c G tc A ad0 ad n0 H locs ls Q hC hP hl hol (ga_oks.cons (v := Vd FP.dconst0) trivial hos)
theorem ga_dconst1  (hd : decode (ga_b M) pc = .ok (.dconst 1, 1)) (k : ga_W t mc ms kc ks M P X (pc + 1) lv (Vd FP.dconst1 :: st) h) : ga_W t mc ms kc ks M P X pc lv (st) h := by
  intro p l e R s m args below meth c G tc A ad0 ad n0 H locs ls Q hC hP hl hol hos
  have hx := hC.1
  have hb := hC.2.1
  refine lv_dconst1 hx hb hd ?_
  exact k p l e R s m args below meth c G tc A ad0 ad n0 H locs ls Q hC hP hl hol (ga_oks.cons (v := Vd FP.dconst1) trivial hos)
theorem ga_ldc2d {i : Nat} {v : UInt64} (hd : decode (ga_b M) pc = .ok (.ldc2_w i, 3)) (hw : Cond.constantDouble (ga_y M).cls i v ∈ ga_big) (k : ga_W t mc ms kc ks M P X (pc + 3) lv (Vd v :: st) h) : ga_W t mc ms kc ks M P X pc lv (st) h := by
  intro p l e R s m args below meth c G tc A ad0 ad n0 H locs ls Q hC hP hl hol hos
  have hx := hC.1
  have hb := hC.2.1
  refine lv_ldc2d hx hb hC.2.2.2.2.1 (hC.2.2.2.2.2.1 _ hw) hd ?_
  exact k p l e R s m args below meth c G tc A ad0 ad n0 H locs ls Q hC hP hl hol (ga_oks.cons (v := Vd v) trivial hos)
theorem ga_ldc2l {i : Nat} {w : Int64} {z : Int} (hd : decode (ga_b M) pc = .ok (.ldc2_w i, 3)) (hw : Cond.constantLong (ga_y M).cls i w ∈ ga_big) (hz : w = Int64.ofInt z) (hn : ga_inL z) (k : ga_W t mc ms kc ks M P X (pc + 3) lv (Vl z :: st) h) : ga_W t mc ms kc ks M P X pc lv (st) h := by
  intro p l e R s m args below meth c G tc A ad0 ad n0 H locs ls Q hC hP hl hol hos
  have hx := hC.1
  have hb := hC.2.1
  refine lv_ldc2 (v := Int64.ofInt z) hx hb hC.2.2.2.2.1 (hC.2.2.2.2.2.1 _ (by rw [← hz]; exact hw)) hd ?_
  exact k p l e R s m args below meth c G tc A ad0 ad n0 H locs ls Q hC hP hl hol (ga_oks.cons (v := Vl z) hn hos)
theorem ga_iload_n {i : Fin 4} {x : Int} (hd : decode (ga_b M) pc = .ok (.iload_n i, 1)) (hi : lv[(i : Nat)]? = some (some (Vi x))) (k : ga_W t mc ms kc ks M P X (pc + 1) lv (Vi x :: st) h) : ga_W t mc ms kc ks M P X pc lv (st) h := by
  intro p l e R s m args below meth c G tc A ad0 ad n0 H locs ls Q hC hP hl hol hos
  have hx := hC.1
  have hb := hC.2.1
  refine lv_iload_n hx hb hd rfl (ga_l_at (v := Vi x) hl hi) ?_
  exact k p l e R s m args below meth c G tc A ad0 ad n0 H locs ls Q hC hP hl hol (ga_oks.cons (hol _ (List.mem_of_getElem? hi)) hos)
theorem ga_iload {i : Nat} {x : Int} (hd : decode (ga_b M) pc = .ok (.iload i, 2)) (hi : lv[i]? = some (some (Vi x))) (k : ga_W t mc ms kc ks M P X (pc + 2) lv (Vi x :: st) h) : ga_W t mc ms kc ks M P X pc lv (st) h := by
  intro p l e R s m args below meth c G tc A ad0 ad n0 H locs ls Q hC hP hl hol hos
  have hx := hC.1
  have hb := hC.2.1
  refine lv_iload hx hb hd (ga_l_at (v := Vi x) hl hi) ?_
  exact k p l e R s m args below meth c G tc A ad0 ad n0 H locs ls Q hC hP hl hol (ga_oks.cons (hol _ (List.mem_of_getElem? hi)) hos)
theorem ga_aload_n {i : Fin 4} {x : Nat} (hd : decode (ga_b M) pc = .ok (.aload_n i, 1)) (hi : lv[(i : Nat)]? = some (some (Vr x))) (k : ga_W t mc ms kc ks M P X (pc + 1) lv (Vr x :: st) h) : ga_W t mc ms kc ks M P X pc lv (st) h := by
  intro p l e R s m args below meth c G tc A ad0 ad n0 H locs ls Q hC hP hl hol hos
  have hx := hC.1
  have hb := hC.2.1
  refine lv_aload_n hx hb hd rfl (ga_l_at (v := Vr x) hl hi) ?_
  exact k p l e R s m args below meth c G tc A ad0 ad n0 H locs ls Q hC hP hl hol (ga_oks.cons (hol _ (List.mem_of_getElem? hi)) hos)
theorem ga_aload {i : Nat} {x : Nat} (hd : decode (ga_b M) pc = .ok (.aload i, 2)) (hi : lv[i]? = some (some (Vr x))) (k : ga_W t mc ms kc ks M P X (pc + 2) lv (Vr x :: st) h) : ga_W t mc ms kc ks M P X pc lv (st) h := by
  intro p l e R s m args below meth c G tc A ad0 ad n0 H locs ls Q hC hP hl hol hos
  have hx := hC.1
  have hb := hC.2.1
  refine lv_aload hx hb hd (ga_l_at (v := Vr x) hl hi) ?_
  exact k p l e R s m args below meth c G tc A ad0 ad n0 H locs ls Q hC hP hl hol (ga_oks.cons (hol _ (List.mem_of_getElem? hi)) hos)
theorem ga_dload_n {i : Fin 4} {x : UInt64} (hd : decode (ga_b M) pc = .ok (.dload_n i, 1)) (hi : lv[(i : Nat)]? = some (some (Vd x))) (k : ga_W t mc ms kc ks M P X (pc + 1) lv (Vd x :: st) h) : ga_W t mc ms kc ks M P X pc lv (st) h := by
  intro p l e R s m args below meth c G tc A ad0 ad n0 H locs ls Q hC hP hl hol hos
  have hx := hC.1
  have hb := hC.2.1
  refine lv_dload_n hx hb hd rfl (ga_l_at (v := Vd x) hl hi) ?_
  exact k p l e R s m args below meth c G tc A ad0 ad n0 H locs ls Q hC hP hl hol (ga_oks.cons (hol _ (List.mem_of_getElem? hi)) hos)
theorem ga_dload {i : Nat} {x : UInt64} (hd : decode (ga_b M) pc = .ok (.dload i, 2)) (hi : lv[i]? = some (some (Vd x))) (k : ga_W t mc ms kc ks M P X (pc + 2) lv (Vd x :: st) h) : ga_W t mc ms kc ks M P X pc lv (st) h := by
  intro p l e R s m args below meth c G tc A ad0 ad n0 H locs ls Q hC hP hl hol hos
  have hx := hC.1
  have hb := hC.2.1
  refine lv_dload hx hb hd (ga_l_at (v := Vd x) hl hi) ?_
  exact k p l e R s m args below meth c G tc A ad0 ad n0 H locs ls Q hC hP hl hol (ga_oks.cons (hol _ (List.mem_of_getElem? hi)) hos)
theorem ga_lload_n {i : Fin 4} {x : Int} (hd : decode (ga_b M) pc = .ok (.lload_n i, 1)) (hi : lv[(i : Nat)]? = some (some (Vl x))) (k : ga_W t mc ms kc ks M P X (pc + 1) lv (Vl x :: st) h) : ga_W t mc ms kc ks M P X pc lv (st) h := by
  intro p l e R s m args below meth c G tc A ad0 ad n0 H locs ls Q hC hP hl hol hos
  have hx := hC.1
  have hb := hC.2.1
  refine lv_lload_n hx hb hd rfl (ga_l_at (v := Vl x) hl hi) ?_
  exact k p l e R s m args below meth c G tc A ad0 ad n0 H locs ls Q hC hP hl hol (ga_oks.cons (hol _ (List.mem_of_getElem? hi)) hos)
theorem ga_lload {i : Nat} {x : Int} (hd : decode (ga_b M) pc = .ok (.lload i, 2)) (hi : lv[i]? = some (some (Vl x))) (k : ga_W t mc ms kc ks M P X (pc + 2) lv (Vl x :: st) h) : ga_W t mc ms kc ks M P X pc lv (st) h := by
  intro p l e R s m args below meth c G tc A ad0 ad n0 H locs ls Q hC hP hl hol hos
  have hx := hC.1
  have hb := hC.2.1
  refine lv_lload hx hb hd (ga_l_at (v := Vl x) hl hi) ?_
  exact k p l e R s m args below meth c G tc A ad0 ad n0 H locs ls Q hC hP hl hol (ga_oks.cons (hol _ (List.mem_of_getElem? hi)) hos)
theorem ga_istore_n {i : Fin 4} {x : Int} {lv2 : List (Option ga_V)} (hd : decode (ga_b M) pc = .ok (.istore_n i, 1)) (hi : (i : Nat) < ga_n M) (hp : ga_pc2 lv (i : Nat) = false) (hl2 : lv.set (i : Nat) (some (Vi x)) = lv2) (k : ga_W t mc ms kc ks M P X (pc + 1) lv2 st h) : ga_W t mc ms kc ks M P X pc lv (Vi x :: st) h := by
  intro p l e R s m args below meth c G tc A ad0 ad n0 H locs ls Q hC hP hl hol hos
  have hx := hC.1
  have hb := hC.2.1
  subst hl2
  refine lv_istore_n hx hb hd rfl hl hi rfl (fun ls2 hl2 => ?_)
  exact k p l e R s m args below meth c G tc A ad0 ad n0 H locs ls2 Q hC hP (ga_l_store1 (v := Vi x) hl2 hp) (ga_okl_set hol hos.head) hos.tail
theorem ga_istore {i : Nat} {x : Int} {lv2 : List (Option ga_V)} (hd : decode (ga_b M) pc = .ok (.istore i, 2)) (hi : i < ga_n M) (hp : ga_pc2 lv i = false) (hl2 : lv.set i (some (Vi x)) = lv2) (k : ga_W t mc ms kc ks M P X (pc + 2) lv2 st h) : ga_W t mc ms kc ks M P X pc lv (Vi x :: st) h := by
  intro p l e R s m args below meth c G tc A ad0 ad n0 H locs ls Q hC hP hl hol hos
  have hx := hC.1
  have hb := hC.2.1
  subst hl2
  refine lv_istore hx hb hd hl hi rfl (fun ls2 hl2 => ?_)
  exact k p l e R s m args below meth c G tc A ad0 ad n0 H locs ls2 Q hC hP (ga_l_store1 (v := Vi x) hl2 hp) (ga_okl_set hol hos.head) hos.tail
theorem ga_astore_n {i : Fin 4} {x : Nat} {lv2 : List (Option ga_V)} (hd : decode (ga_b M) pc = .ok (.astore_n i, 1)) (hi : (i : Nat) < ga_n M) (hp : ga_pc2 lv (i : Nat) = false) (hl2 : lv.set (i : Nat) (some (Vr x)) = lv2) (k : ga_W t mc ms kc ks M P X (pc + 1) lv2 st h) : ga_W t mc ms kc ks M P X pc lv (Vr x :: st) h := by
  intro p l e R s m args below meth c G tc A ad0 ad n0 H locs ls Q hC hP hl hol hos
  have hx := hC.1
  have hb := hC.2.1
  subst hl2
  refine lv_astore_n hx hb hd rfl hl hi rfl (fun ls2 hl2 => ?_)
  exact k p l e R s m args below meth c G tc A ad0 ad n0 H locs ls2 Q hC hP (ga_l_store1 (v := Vr x) hl2 hp) (ga_okl_set hol hos.head) hos.tail
theorem ga_astore {i : Nat} {x : Nat} {lv2 : List (Option ga_V)} (hd : decode (ga_b M) pc = .ok (.astore i, 2)) (hi : i < ga_n M) (hp : ga_pc2 lv i = false) (hl2 : lv.set i (some (Vr x)) = lv2) (k : ga_W t mc ms kc ks M P X (pc + 2) lv2 st h) : ga_W t mc ms kc ks M P X pc lv (Vr x :: st) h := by
  intro p l e R s m args below meth c G tc A ad0 ad n0 H locs ls Q hC hP hl hol hos
  have hx := hC.1
  have hb := hC.2.1
  subst hl2
  refine lv_astore hx hb hd hl hi rfl (fun ls2 hl2 => ?_)
  exact k p l e R s m args below meth c G tc A ad0 ad n0 H locs ls2 Q hC hP (ga_l_store1 (v := Vr x) hl2 hp) (ga_okl_set hol hos.head) hos.tail
theorem ga_dstore_n {i : Fin 4} {x : UInt64} {lv2 : List (Option ga_V)} (hd : decode (ga_b M) pc = .ok (.dstore_n i, 1)) (hi : (i : Nat) + 1 < ga_n M) (hp : ga_pc2 lv (i : Nat) = false) (hl2 : (lv.set (i : Nat) (some (Vd x))).set ((i : Nat) + 1) none = lv2) (k : ga_W t mc ms kc ks M P X (pc + 1) lv2 st h) : ga_W t mc ms kc ks M P X pc lv (Vd x :: st) h := by
  intro p l e R s m args below meth c G tc A ad0 ad n0 H locs ls Q hC hP hl hol hos
  have hx := hC.1
  have hb := hC.2.1
  subst hl2
  refine lv_dstore_n hx hb hd rfl hl hi rfl (fun ls2 hl2 => ?_)
  exact k p l e R s m args below meth c G tc A ad0 ad n0 H locs ls2 Q hC hP (ga_l_store2 (v := Vd x) hl2 hp) (ga_okl_clr (ga_okl_set hol hos.head)) hos.tail
theorem ga_dstore {i : Nat} {x : UInt64} {lv2 : List (Option ga_V)} (hd : decode (ga_b M) pc = .ok (.dstore i, 2)) (hi : i + 1 < ga_n M) (hp : ga_pc2 lv i = false) (hl2 : (lv.set i (some (Vd x))).set (i + 1) none = lv2) (k : ga_W t mc ms kc ks M P X (pc + 2) lv2 st h) : ga_W t mc ms kc ks M P X pc lv (Vd x :: st) h := by
  intro p l e R s m args below meth c G tc A ad0 ad n0 H locs ls Q hC hP hl hol hos
  have hx := hC.1
  have hb := hC.2.1
  subst hl2
  refine lv_dstore hx hb hd hl hi rfl (fun ls2 hl2 => ?_)
  exact k p l e R s m args below meth c G tc A ad0 ad n0 H locs ls2 Q hC hP (ga_l_store2 (v := Vd x) hl2 hp) (ga_okl_clr (ga_okl_set hol hos.head)) hos.tail
theorem ga_lstore_n {i : Fin 4} {x : Int} {lv2 : List (Option ga_V)} (hd : decode (ga_b M) pc = .ok (.lstore_n i, 1)) (hi : (i : Nat) + 1 < ga_n M) (hp : ga_pc2 lv (i : Nat) = false) (hl2 : (lv.set (i : Nat) (some (Vl x))).set ((i : Nat) + 1) none = lv2) (k : ga_W t mc ms kc ks M P X (pc + 1) lv2 st h) : ga_W t mc ms kc ks M P X pc lv (Vl x :: st) h := by
  intro p l e R s m args below meth c G tc A ad0 ad n0 H locs ls Q hC hP hl hol hos
  have hx := hC.1
  have hb := hC.2.1
  subst hl2
  refine lv_lstore_n hx hb hd rfl hl hi rfl (fun ls2 hl2 => ?_)
  exact k p l e R s m args below meth c G tc A ad0 ad n0 H locs ls2 Q hC hP (ga_l_store2 (v := Vl x) hl2 hp) (ga_okl_clr (ga_okl_set hol hos.head)) hos.tail
theorem ga_lstore {i : Nat} {x : Int} {lv2 : List (Option ga_V)} (hd : decode (ga_b M) pc = .ok (.lstore i, 2)) (hi : i + 1 < ga_n M) (hp : ga_pc2 lv i = false) (hl2 : (lv.set i (some (Vl x))).set (i + 1) none = lv2) (k : ga_W t mc ms kc ks M P X (pc + 2) lv2 st h) : ga_W t mc ms kc ks M P X pc lv (Vl x :: st) h := by
  intro p l e R s m args below meth c G tc A ad0 ad n0 H locs ls Q hC hP hl hol hos
  have hx := hC.1
  have hb := hC.2.1
  subst hl2
  refine lv_lstore hx hb hd hl hi rfl (fun ls2 hl2 => ?_)
  exact k p l e R s m args below meth c G tc A ad0 ad n0 H locs ls2 Q hC hP (ga_l_store2 (v := Vl x) hl2 hp) (ga_okl_clr (ga_okl_set hol hos.head)) hos.tail
theorem ga_iinc {i : Nat} {n x z : Int} {lv2 : List (Option ga_V)} (hd : decode (ga_b M) pc = .ok (.iinc i n, 3)) (hi : i < ga_n M) (hx0 : lv[i]? = some (some (Vi x))) (hp : ga_pc2 lv i = false) (hz : x + n = z) (hn : ga_inI z) (hl2 : lv.set i (some (Vi z)) = lv2) (k : ga_W t mc ms kc ks M P X (pc + 3) lv2 st h) : ga_W t mc ms kc ks M P X pc lv st h := by
  intro p l e R s m args below meth c G tc A ad0 ad n0 H locs ls Q hC hP hl hol hos
  have hx := hC.1
  have hb := hC.2.1
  subst hl2
  subst hz
  obtain ⟨j, hj⟩ := List.getElem?_of_mem (ga_l_mem (ad := ad) (i := 0).mpr ⟨i, Vi x, hx0, by rw [Nat.zero_add]⟩)
  refine lv_iinc hx hb hd hl hj (v := Int32.ofInt (x + n)) (by rw [Int32.ofInt_add]) hi rfl (fun ls2 hl2 => ?_)
  exact k p l e R s m args below meth c G tc A ad0 ad n0 H locs ls2 Q hC hP (ga_l_store1 (v := Vi (x + n)) hl2 hp) (ga_okl_set hol hn) hos
theorem ga_dup {v : ga_V} (hd : decode (ga_b M) pc = .ok (.dup, 1)) (hv : ga_c2 v = false) (k : ga_W t mc ms kc ks M P X (pc + 1) lv (v :: v :: st) h) : ga_W t mc ms kc ks M P X pc lv (v :: st) h := by
  intro p l e R s m args below meth c G tc A ad0 ad n0 H locs ls Q hC hP hl hol hos
  have hx := hC.1
  have hb := hC.2.1
  refine lv_dup hx hb hd (by rw [ga_cat, hv]; rfl) ?_
  exact k p l e R s m args below meth c G tc A ad0 ad n0 H locs ls Q hC hP hl hol (ga_oks.cons hos.head hos)
theorem ga_pop {v : ga_V} (hd : decode (ga_b M) pc = .ok (.pop, 1)) (hv : ga_c2 v = false) (k : ga_W t mc ms kc ks M P X (pc + 1) lv (st) h) : ga_W t mc ms kc ks M P X pc lv (v :: st) h := by
  intro p l e R s m args below meth c G tc A ad0 ad n0 H locs ls Q hC hP hl hol hos
  have hx := hC.1
  have hb := hC.2.1
  refine lv_pop hx hb hd (by rw [ga_cat, hv]; rfl) ?_
  exact k p l e R s m args below meth c G tc A ad0 ad n0 H locs ls Q hC hP hl hol (hos.tail)
theorem ga_dup2 {v w : ga_V} (hd : decode (ga_b M) pc = .ok (.dup2, 1)) (hv : ga_c2 v = false) (hw : ga_c2 w = false) (k : ga_W t mc ms kc ks M P X (pc + 1) lv (v :: w :: v :: w :: st) h) : ga_W t mc ms kc ks M P X pc lv (v :: w :: st) h := by
  intro p l e R s m args below meth c G tc A ad0 ad n0 H locs ls Q hC hP hl hol hos
  have hx := hC.1
  have hb := hC.2.1
  refine lv_dup2_11 hx hb hd (by rw [ga_cat, hv]; rfl) (by rw [ga_cat, hw]; rfl) ?_
  exact k p l e R s m args below meth c G tc A ad0 ad n0 H locs ls Q hC hP hl hol (ga_oks.cons hos.head (ga_oks.cons hos.tail.head hos))
theorem ga_dup2l {v : ga_V} (hd : decode (ga_b M) pc = .ok (.dup2, 1)) (hv : ga_c2 v = true) (k : ga_W t mc ms kc ks M P X (pc + 1) lv (v :: v :: st) h) : ga_W t mc ms kc ks M P X pc lv (v :: st) h := by
  intro p l e R s m args below meth c G tc A ad0 ad n0 H locs ls Q hC hP hl hol hos
  have hx := hC.1
  have hb := hC.2.1
  refine lv_dup2_2 hx hb hd (by rw [ga_cat, hv]; rfl) ?_
  exact k p l e R s m args below meth c G tc A ad0 ad n0 H locs ls Q hC hP hl hol (ga_oks.cons hos.head hos)
theorem ga_dup_x1 {v w : ga_V} (hd : decode (ga_b M) pc = .ok (.dup_x1, 1)) (hv : ga_c2 v = false) (hw : ga_c2 w = false) (k : ga_W t mc ms kc ks M P X (pc + 1) lv (v :: w :: v :: st) h) : ga_W t mc ms kc ks M P X pc lv (v :: w :: st) h := by
  intro p l e R s m args below meth c G tc A ad0 ad n0 H locs ls Q hC hP hl hol hos
  have hx := hC.1
  have hb := hC.2.1
  refine lv_dup_x1 hx hb hd (by rw [ga_cat, hv]; rfl) (by rw [ga_cat, hw]; rfl) ?_
  exact k p l e R s m args below meth c G tc A ad0 ad n0 H locs ls Q hC hP hl hol (ga_oks.cons hos.head (ga_oks.cons hos.tail.head (ga_oks.cons hos.head hos.tail.tail)))
theorem ga_iadd {x y z : Int} (hd : decode (ga_b M) pc = .ok (.iadd, 1)) (hz : x + y = z) (hn : ga_inI z) (k : ga_W t mc ms kc ks M P X (pc + 1) lv (Vi z :: st) h) : ga_W t mc ms kc ks M P X pc lv (Vi y :: Vi x :: st) h := by
  intro p l e R s m args below meth c G tc A ad0 ad n0 H locs ls Q hC hP hl hol hos
  have hx := hC.1
  have hb := hC.2.1
  subst hz
  refine lv_iadd hx hb hd ?_
  rw [← Int32.ofInt_add]
  exact k p l e R s m args below meth c G tc A ad0 ad n0 H locs ls Q hC hP hl hol (ga_oks.cons (v := Vi (x + y)) hn hos.tail.tail)
theorem ga_isub {x y z : Int} (hd : decode (ga_b M) pc = .ok (.isub, 1)) (hz : x - y = z) (hn : ga_inI z) (k : ga_W t mc ms kc ks M P X (pc + 1) lv (Vi z :: st) h) : ga_W t mc ms kc ks M P X pc lv (Vi y :: Vi x :: st) h := by
  intro p l e R s m args below meth c G tc A ad0 ad n0 H locs ls Q hC hP hl hol hos
  have hx := hC.1
  have hb := hC.2.1
  subst hz
  refine lv_isub hx hb hd ?_
  rw [← Int32.ofInt_sub]
  exact k p l e R s m args below meth c G tc A ad0 ad n0 H locs ls Q hC hP hl hol (ga_oks.cons (v := Vi (x - y)) hn hos.tail.tail)
theorem ga_imul {x y z : Int} (hd : decode (ga_b M) pc = .ok (.imul, 1)) (hz : x * y = z) (hn : ga_inI z) (k : ga_W t mc ms kc ks M P X (pc + 1) lv (Vi z :: st) h) : ga_W t mc ms kc ks M P X pc lv (Vi y :: Vi x :: st) h := by
  intro p l e R s m args below meth c G tc A ad0 ad n0 H locs ls Q hC hP hl hol hos
  have hx := hC.1
  have hb := hC.2.1
  subst hz
  refine lv_imul hx hb hd ?_
  rw [← Int32.ofInt_mul]
  exact k p l e R s m args below meth c G tc A ad0 ad n0 H locs ls Q hC hP hl hol (ga_oks.cons (v := Vi (x * y)) hn hos.tail.tail)
theorem ga_idiv {x y z : Int} (hd : decode (ga_b M) pc = .ok (.idiv, 1)) (h0 : 0 ≤ x) (h1 : 0 < y) (hz : x / y = z) (k : ga_W t mc ms kc ks M P X (pc + 1) lv (Vi z :: st) h) : ga_W t mc ms kc ks M P X pc lv (Vi y :: Vi x :: st) h := by
  intro p l e R s m args below meth c G tc A ad0 ad n0 H locs ls Q hC hP hl hol hos
  have hx := hC.1
  have hb := hC.2.1
  subst hz
  have hy : ga_inI y := hos.head
  have hx9 : ga_inI x := hos.tail.head
  have hn : ga_inI (x / y) := ⟨by have := Int.ediv_nonneg h0 (Int.le_of_lt h1); omega, by have := Int.ediv_le_self y h0; have := hx9.2; omega⟩
  refine lv_idiv hx hb hd (fun q => by rw [ga_eq0 hy] at q; omega) ?_
  rw [show Int32.ofInt x / Int32.ofInt y = Int32.ofInt (x / y) from by
    apply Int32.toInt_inj.mp
    rw [Int32.toInt_div, ga_toI hx9, ga_toI hy, ga_toI hn, Int.tdiv_eq_ediv_of_nonneg h0]
    exact Int.bmod_eq_of_le (by have := hn.1; omega) (by have := hn.2; omega)]
  exact k p l e R s m args below meth c G tc A ad0 ad n0 H locs ls Q hC hP hl hol (ga_oks.cons (v := Vi (x / y)) hn hos.tail.tail)
theorem ga_irem {x y z : Int} (hd : decode (ga_b M) pc = .ok (.irem, 1)) (h0 : 0 ≤ x) (h1 : 0 < y) (hz : x % y = z) (k : ga_W t mc ms kc ks M P X (pc + 1) lv (Vi z :: st) h) : ga_W t mc ms kc ks M P X pc lv (Vi y :: Vi x :: st) h := by
  intro p l e R s m args below meth c G tc A ad0 ad n0 H locs ls Q hC hP hl hol hos
  have hx := hC.1
  have hb := hC.2.1
  subst hz
  have hy : ga_inI y := hos.head
  have hx9 : ga_inI x := hos.tail.head
  have hq : ga_inI (x / y) := ⟨by have := Int.ediv_nonneg h0 (Int.le_of_lt h1); omega, by have := Int.ediv_le_self y h0; have := hx9.2; omega⟩
  have hn : ga_inI (x % y) := ⟨by have := Int.emod_nonneg x (show y ≠ 0 by omega); omega, by have := Int.emod_lt_of_pos x h1; have := hy.2; omega⟩
  refine lv_irem hx hb hd (fun q => by rw [ga_eq0 hy] at q; omega) ?_
  rw [show Int32.ofInt x / Int32.ofInt y = Int32.ofInt (x / y) from by
    apply Int32.toInt_inj.mp
    rw [Int32.toInt_div, ga_toI hx9, ga_toI hy, ga_toI hq, Int.tdiv_eq_ediv_of_nonneg h0]
    exact Int.bmod_eq_of_le (by have := hq.1; omega) (by have := hq.2; omega)]
  rw [← Int32.ofInt_mul, ← Int32.ofInt_sub, show x - x / y * y = x % y from by have := Int.emod_add_mul_ediv x y; rw [Int.mul_comm]; omega]
  exact k p l e R s m args below meth c G tc A ad0 ad n0 H locs ls Q hC hP hl hol (ga_oks.cons (v := Vi (x % y)) hn hos.tail.tail)
theorem ga_if_eq {x : Int} {off : Int} {tgt : Nat} (hd : decode (ga_b M) pc = .ok (.ifCond .eq off, 3)) (ht : (pc : Int) + off = (tgt : Int)) (kt : x = 0 → ga_W t mc ms kc ks M P X tgt lv st h) (kf : ¬ x = 0 → ga_W t mc ms kc ks M P X (pc + 3) lv st h) : ga_W t mc ms kc ks M P X pc lv (Vi x :: st) h := by
  intro p l e R s m args below meth c G tc A ad0 ad n0 H locs ls Q hC hP hl hol hos
  have hx := hC.1
  have hb := hC.2.1
  have hx9 : ga_inI x := hos.head
  exact lv_if_eq hx hb hd ht (fun q => kt ((ga_eq0 hx9).mp q) p l e R s m args below meth c G tc A ad0 ad n0 H locs ls Q hC hP hl hol (hos.tail)) (fun q => kf (fun z => q ((ga_eq0 hx9).mpr z)) p l e R s m args below meth c G tc A ad0 ad n0 H locs ls Q hC hP hl hol (hos.tail))
theorem ga_icmp_eq {x y : Int} {off : Int} {tgt : Nat} (hd : decode (ga_b M) pc = .ok (.if_icmp .eq off, 3)) (ht : (pc : Int) + off = (tgt : Int)) (kt : x = y → ga_W t mc ms kc ks M P X tgt lv st h) (kf : ¬ x = y → ga_W t mc ms kc ks M P X (pc + 3) lv st h) : ga_W t mc ms kc ks M P X pc lv (Vi y :: Vi x :: st) h := by
  intro p l e R s m args below meth c G tc A ad0 ad n0 H locs ls Q hC hP hl hol hos
  have hx := hC.1
  have hb := hC.2.1
  have hy9 : ga_inI y := hos.head
  have hx9 : ga_inI x := hos.tail.head
  exact lv_icmp_eq hx hb hd ht (fun q => kt ((ga_eq hx9 hy9).mp q) p l e R s m args below meth c G tc A ad0 ad n0 H locs ls Q hC hP hl hol (hos.tail.tail)) (fun q => kf (fun z => q ((ga_eq hx9 hy9).mpr z)) p l e R s m args below meth c G tc A ad0 ad n0 H locs ls Q hC hP hl hol (hos.tail.tail))
theorem ga_if_ne {x : Int} {off : Int} {tgt : Nat} (hd : decode (ga_b M) pc = .ok (.ifCond .ne off, 3)) (ht : (pc : Int) + off = (tgt : Int)) (kt : ¬ x = 0 → ga_W t mc ms kc ks M P X tgt lv st h) (kf : x = 0 → ga_W t mc ms kc ks M P X (pc + 3) lv st h) : ga_W t mc ms kc ks M P X pc lv (Vi x :: st) h := by
  intro p l e R s m args below meth c G tc A ad0 ad n0 H locs ls Q hC hP hl hol hos
  have hx := hC.1
  have hb := hC.2.1
  have hx9 : ga_inI x := hos.head
  exact lv_if_ne hx hb hd ht (fun q => kt (fun z => q ((ga_eq0 hx9).mpr z)) p l e R s m args below meth c G tc A ad0 ad n0 H locs ls Q hC hP hl hol (hos.tail)) (fun q => kf (by first | exact (ga_eq0 hx9).mp q | exact (ga_eq0 hx9).mp (Classical.not_not.mp q)) p l e R s m args below meth c G tc A ad0 ad n0 H locs ls Q hC hP hl hol (hos.tail))
theorem ga_icmp_ne {x y : Int} {off : Int} {tgt : Nat} (hd : decode (ga_b M) pc = .ok (.if_icmp .ne off, 3)) (ht : (pc : Int) + off = (tgt : Int)) (kt : ¬ x = y → ga_W t mc ms kc ks M P X tgt lv st h) (kf : x = y → ga_W t mc ms kc ks M P X (pc + 3) lv st h) : ga_W t mc ms kc ks M P X pc lv (Vi y :: Vi x :: st) h := by
  intro p l e R s m args below meth c G tc A ad0 ad n0 H locs ls Q hC hP hl hol hos
  have hx := hC.1
  have hb := hC.2.1
  have hy9 : ga_inI y := hos.head
  have hx9 : ga_inI x := hos.tail.head
  exact lv_icmp_ne hx hb hd ht (fun q => kt (fun z => q ((ga_eq hx9 hy9).mpr z)) p l e R s m args below meth c G tc A ad0 ad n0 H locs ls Q hC hP hl hol (hos.tail.tail)) (fun q => kf (by first | exact (ga_eq hx9 hy9).mp q | exact (ga_eq hx9 hy9).mp (Classical.not_not.mp q)) p l e R s m args below meth c G tc A ad0 ad n0 H locs ls Q hC hP hl hol (hos.tail.tail))
theorem ga_if_lt {x : Int} {off : Int} {tgt : Nat} (hd : decode (ga_b M) pc = .ok (.ifCond .lt off, 3)) (ht : (pc : Int) + off = (tgt : Int)) (kt : x < 0 → ga_W t mc ms kc ks M P X tgt lv st h) (kf : ¬ x < 0 → ga_W t mc ms kc ks M P X (pc + 3) lv st h) : ga_W t mc ms kc ks M P X pc lv (Vi x :: st) h := by
  intro p l e R s m args below meth c G tc A ad0 ad n0 H locs ls Q hC hP hl hol hos
  have hx := hC.1
  have hb := hC.2.1
  have hx9 : ga_inI x := hos.head
  exact lv_if_lt hx hb hd ht (fun q => kt ((ga_lt0 hx9).mp q) p l e R s m args below meth c G tc A ad0 ad n0 H locs ls Q hC hP hl hol (hos.tail)) (fun q => kf (fun z => q ((ga_lt0 hx9).mpr z)) p l e R s m args below meth c G tc A ad0 ad n0 H locs ls Q hC hP hl hol (hos.tail))
theorem ga_icmp_lt {x y : Int} {off : Int} {tgt : Nat} (hd : decode (ga_b M) pc = .ok (.if_icmp .lt off, 3)) (ht : (pc : Int) + off = (tgt : Int)) (kt : x < y → ga_W t mc ms kc ks M P X tgt lv st h) (kf : ¬ x < y → ga_W t mc ms kc ks M P X (pc + 3) lv st h) : ga_W t mc ms kc ks M P X pc lv (Vi y :: Vi x :: st) h := by
  intro p l e R s m args below meth c G tc A ad0 ad n0 H locs ls Q hC hP hl hol hos
  have hx := hC.1
  have hb := hC.2.1
  have hy9 : ga_inI y := hos.head
  have hx9 : ga_inI x := hos.tail.head
  exact lv_icmp_lt hx hb hd ht (fun q => kt ((ga_lt hx9 hy9).mp q) p l e R s m args below meth c G tc A ad0 ad n0 H locs ls Q hC hP hl hol (hos.tail.tail)) (fun q => kf (fun z => q ((ga_lt hx9 hy9).mpr z)) p l e R s m args below meth c G tc A ad0 ad n0 H locs ls Q hC hP hl hol (hos.tail.tail))
theorem ga_if_ge {x : Int} {off : Int} {tgt : Nat} (hd : decode (ga_b M) pc = .ok (.ifCond .ge off, 3)) (ht : (pc : Int) + off = (tgt : Int)) (kt : ¬ x < 0 → ga_W t mc ms kc ks M P X tgt lv st h) (kf : x < 0 → ga_W t mc ms kc ks M P X (pc + 3) lv st h) : ga_W t mc ms kc ks M P X pc lv (Vi x :: st) h := by
  intro p l e R s m args below meth c G tc A ad0 ad n0 H locs ls Q hC hP hl hol hos
  have hx := hC.1
  have hb := hC.2.1
  have hx9 : ga_inI x := hos.head
  exact lv_if_ge hx hb hd ht (fun q => kt (by first | exact fun z => q ((ga_lt0 hx9).mpr z) | (intro z; exact absurd ((ga_lt0 hx9).mpr z) (by first | exact Int32.not_lt.mpr q | exact q))) p l e R s m args below meth c G tc A ad0 ad n0 H locs ls Q hC hP hl hol (hos.tail)) (fun q => kf (by first | exact (ga_lt0 hx9).mp q | exact (ga_lt0 hx9).mp (Int32.not_le.mp q) | exact (ga_lt0 hx9).mp (Classical.not_not.mp q)) p l e R s m args below meth c G tc A ad0 ad n0 H locs ls Q hC hP hl hol (hos.tail))
theorem ga_icmp_ge {x y : Int} {off : Int} {tgt : Nat} (hd : decode (ga_b M) pc = .ok (.if_icmp .ge off, 3)) (ht : (pc : Int) + off = (tgt : Int)) (kt : ¬ x < y → ga_W t mc ms kc ks M P X tgt lv st h) (kf : x < y → ga_W t mc ms kc ks M P X (pc + 3) lv st h) : ga_W t mc ms kc ks M P X pc lv (Vi y :: Vi x :: st) h := by
  intro p l e R s m args below meth c G tc A ad0 ad n0 H locs ls Q hC hP hl hol hos
  have hx := hC.1
  have hb := hC.2.1
  have hy9 : ga_inI y := hos.head
  have hx9 : ga_inI x := hos.tail.head
  exact lv_icmp_ge hx hb hd ht (fun q => kt (by first | exact fun z => q ((ga_lt hx9 hy9).mpr z) | (intro z; exact absurd ((ga_lt hx9 hy9).mpr z) (by first | exact Int32.not_lt.mpr q | exact q))) p l e R s m args below meth c G tc A ad0 ad n0 H locs ls Q hC hP hl hol (hos.tail.tail)) (fun q => kf (by first | exact (ga_lt hx9 hy9).mp q | exact (ga_lt hx9 hy9).mp (Int32.not_le.mp q) | exact (ga_lt hx9 hy9).mp (Classical.not_not.mp q)) p l e R s m args below meth c G tc A ad0 ad n0 H locs ls Q hC hP hl hol (hos.tail.tail))
theorem ga_if_gt {x : Int} {off : Int} {tgt : Nat} (hd : decode (ga_b M) pc = .ok (.ifCond .gt off, 3)) (ht : (pc : Int) + off = (tgt : Int)) (kt : ¬ x ≤ 0 → ga_W t mc ms kc ks M P X tgt lv st h) (kf : x ≤ 0 → ga_W t mc ms kc ks M P X (pc + 3) lv st h) : ga_W t mc ms kc ks M P X pc lv (Vi x :: st) h := by
  intro p l e R s m args below meth c G tc A ad0 ad n0 H locs ls Q hC hP hl hol hos
  have hx := hC.1
  have hb := hC.2.1
  have hx9 : ga_inI x := hos.head
  exact lv_if_gt hx hb hd ht (fun q => kt (by first | exact fun z => q ((ga_le0 hx9).mpr z) | (intro z; exact absurd ((ga_le0 hx9).mpr z) (by first | exact Int32.not_le.mpr q | exact q))) p l e R s m args below meth c G tc A ad0 ad n0 H locs ls Q hC hP hl hol (hos.tail)) (fun q => kf (by first | exact (ga_le0 hx9).mp q | exact (ga_le0 hx9).mp (Int32.not_lt.mp q) | exact (ga_le0 hx9).mp (Classical.not_not.mp q)) p l e R s m args below meth c G tc A ad0 ad n0 H locs ls Q hC hP hl hol (hos.tail))
theorem ga_icmp_gt {x y : Int} {off : Int} {tgt : Nat} (hd : decode (ga_b M) pc = .ok (.if_icmp .gt off, 3)) (ht : (pc : Int) + off = (tgt : Int)) (kt : ¬ x ≤ y → ga_W t mc ms kc ks M P X tgt lv st h) (kf : x ≤ y → ga_W t mc ms kc ks M P X (pc + 3) lv st h) : ga_W t mc ms kc ks M P X pc lv (Vi y :: Vi x :: st) h := by
  intro p l e R s m args below meth c G tc A ad0 ad n0 H locs ls Q hC hP hl hol hos
  have hx := hC.1
  have hb := hC.2.1
  have hy9 : ga_inI y := hos.head
  have hx9 : ga_inI x := hos.tail.head
  exact lv_icmp_gt hx hb hd ht (fun q => kt (by first | exact fun z => q ((ga_le hx9 hy9).mpr z) | (intro z; exact absurd ((ga_le hx9 hy9).mpr z) (by first | exact Int32.not_le.mpr q | exact q))) p l e R s m args below meth c G tc A ad0 ad n0 H locs ls Q hC hP hl hol (hos.tail.tail)) (fun q => kf (by first | exact (ga_le hx9 hy9).mp q | exact (ga_le hx9 hy9).mp (Int32.not_lt.mp q) | exact (ga_le hx9 hy9).mp (Classical.not_not.mp q)) p l e R s m args below meth c G tc A ad0 ad n0 H locs ls Q hC hP hl hol (hos.tail.tail))
theorem ga_if_le {x : Int} {off : Int} {tgt : Nat} (hd : decode (ga_b M) pc = .ok (.ifCond .le off, 3)) (ht : (pc : Int) + off = (tgt : Int)) (kt : x ≤ 0 → ga_W t mc ms kc ks M P X tgt lv st h) (kf : ¬ x ≤ 0 → ga_W t mc ms kc ks M P X (pc + 3) lv st h) : ga_W t mc ms kc ks M P X pc lv (Vi x :: st) h := by
  intro p l e R s m args below meth c G tc A ad0 ad n0 H locs ls Q hC hP hl hol hos
  have hx := hC.1
  have hb := hC.2.1
  have hx9 : ga_inI x := hos.head
  exact lv_if_le hx hb hd ht (fun q => kt ((ga_le0 hx9).mp q) p l e R s m args below meth c G tc A ad0 ad n0 H locs ls Q hC hP hl hol (hos.tail)) (fun q => kf (fun z => q ((ga_le0 hx9).mpr z)) p l e R s m args below meth c G tc A ad0 ad n0 H locs ls Q hC hP hl hol (hos.tail))
theorem ga_icmp_le {x y : Int} {off : Int} {tgt : Nat} (hd : decode (ga_b M) pc = .ok (.if_icmp .le off, 3)) (ht : (pc : Int) + off = (tgt : Int)) (kt : x ≤ y → ga_W t mc ms kc ks M P X tgt lv st h) (kf : ¬ x ≤ y → ga_W t mc ms kc ks M P X (pc + 3) lv st h) : ga_W t mc ms kc ks M P X pc lv (Vi y :: Vi x :: st) h := by
  intro p l e R s m args below meth c G tc A ad0 ad n0 H locs ls Q hC hP hl hol hos
  have hx := hC.1
  have hb := hC.2.1
  have hy9 : ga_inI y := hos.head
  have hx9 : ga_inI x := hos.tail.head
  exact lv_icmp_le hx hb hd ht (fun q => kt ((ga_le hx9 hy9).mp q) p l e R s m args below meth c G tc A ad0 ad n0 H locs ls Q hC hP hl hol (hos.tail.tail)) (fun q => kf (fun z => q ((ga_le hx9 hy9).mpr z)) p l e R s m args below meth c G tc A ad0 ad n0 H locs ls Q hC hP hl hol (hos.tail.tail))
theorem ga_goto {off : Int} {tgt : Nat} (hd : decode (ga_b M) pc = .ok (.goto off, 3)) (ht : (pc : Int) + off = (tgt : Int)) (k : ga_W t mc ms kc ks M P X (tgt) lv (st) h) : ga_W t mc ms kc ks M P X pc lv (st) h := by
  intro p l e R s m args below meth c G tc A ad0 ad n0 H locs ls Q hC hP hl hol hos
  have hx := hC.1
  have hb := hC.2.1
  refine lv_goto hx hb hd ht ?_
  exact k p l e R s m args below meth c G tc A ad0 ad n0 H locs ls Q hC hP hl hol (hos)
theorem ga_dadd {x y : UInt64} (hd : decode (ga_b M) pc = .ok (.dadd, 1)) (hne : vf_n64 (FP.dadd x y)) (k : ga_W t mc ms kc ks M P X (pc + 1) lv (Vd (FP.dadd x y) :: st) h) : ga_W t mc ms kc ks M P X pc lv (Vd y :: Vd x :: st) h := by
  intro p l e R s m args below meth c G tc A ad0 ad n0 H locs ls Q hC hP hl hol hos
  have hx := hC.1
  have hb := hC.2.1
  refine lv_dadd hx hb hd hne ?_
  exact k p l e R s m args below meth c G tc A ad0 ad n0 H locs ls Q hC hP hl hol (ga_oks.cons (v := Vd _) trivial hos.tail.tail)
theorem ga_dsub {x y : UInt64} (hd : decode (ga_b M) pc = .ok (.dsub, 1)) (hne : vf_n64 (FP.dsub x y)) (k : ga_W t mc ms kc ks M P X (pc + 1) lv (Vd (FP.dsub x y) :: st) h) : ga_W t mc ms kc ks M P X pc lv (Vd y :: Vd x :: st) h := by
  intro p l e R s m args below meth c G tc A ad0 ad n0 H locs ls Q hC hP hl hol hos
  have hx := hC.1
  have hb := hC.2.1
  refine lv_dsub hx hb hd hne ?_
  exact k p l e R s m args below meth c G tc A ad0 ad n0 H locs ls Q hC hP hl hol (ga_oks.cons (v := Vd _) trivial hos.tail.tail)
theorem ga_dmul {x y : UInt64} (hd : decode (ga_b M) pc = .ok (.dmul, 1)) (hne : vf_n64 (FP.dmul x y)) (k : ga_W t mc ms kc ks M P X (pc + 1) lv (Vd (FP.dmul x y) :: st) h) : ga_W t mc ms kc ks M P X pc lv (Vd y :: Vd x :: st) h := by
  intro p l e R s m args below meth c G tc A ad0 ad n0 H locs ls Q hC hP hl hol hos
  have hx := hC.1
  have hb := hC.2.1
  refine lv_dmul hx hb hd hne ?_
  exact k p l e R s m args below meth c G tc A ad0 ad n0 H locs ls Q hC hP hl hol (ga_oks.cons (v := Vd _) trivial hos.tail.tail)
theorem ga_ddiv {x y : UInt64} (hd : decode (ga_b M) pc = .ok (.ddiv, 1)) (hne : vf_n64 (FP.ddiv x y)) (k : ga_W t mc ms kc ks M P X (pc + 1) lv (Vd (FP.ddiv x y) :: st) h) : ga_W t mc ms kc ks M P X pc lv (Vd y :: Vd x :: st) h := by
  intro p l e R s m args below meth c G tc A ad0 ad n0 H locs ls Q hC hP hl hol hos
  have hx := hC.1
  have hb := hC.2.1
  refine lv_ddiv hx hb hd hne ?_
  exact k p l e R s m args below meth c G tc A ad0 ad n0 H locs ls Q hC hP hl hol (ga_oks.cons (v := Vd _) trivial hos.tail.tail)
theorem ga_dcmp {x y : UInt64} {op : CmpOp} {z : Int} (hd : decode (ga_b M) pc = .ok (.dcmp op, 1)) (hz : Op.cmpValue (FP.dcmp x y) op = Int32.ofInt z) (hn : ga_inI z) (k : ga_W t mc ms kc ks M P X (pc + 1) lv (Vi z :: st) h) : ga_W t mc ms kc ks M P X pc lv (Vd y :: Vd x :: st) h := by
  intro p l e R s m args below meth c G tc A ad0 ad n0 H locs ls Q hC hP hl hol hos
  have hx := hC.1
  have hb := hC.2.1
  refine lv_dcmp hx hb hd ?_
  rw [hz]
  exact k p l e R s m args below meth c G tc A ad0 ad n0 H locs ls Q hC hP hl hol (ga_oks.cons (v := Vi z) hn hos.tail.tail)
theorem ga_i2d {x : Int} (hd : decode (ga_b M) pc = .ok (.i2d, 1)) (k : ga_W t mc ms kc ks M P X (pc + 1) lv (Vd (FP.i2d (Int32.ofInt x)) :: st) h) : ga_W t mc ms kc ks M P X pc lv (Vi x :: st) h := by
  intro p l e R s m args below meth c G tc A ad0 ad n0 H locs ls Q hC hP hl hol hos
  have hx := hC.1
  have hb := hC.2.1
  refine lv_i2d hx hb hd ?_
  exact k p l e R s m args below meth c G tc A ad0 ad n0 H locs ls Q hC hP hl hol (ga_oks.cons (v := Vd _) trivial hos.tail)
theorem ga_i2l {x : Int} (hd : decode (ga_b M) pc = .ok (.i2l, 1)) (k : ga_W t mc ms kc ks M P X (pc + 1) lv (Vl x :: st) h) : ga_W t mc ms kc ks M P X pc lv (Vi x :: st) h := by
  intro p l e R s m args below meth c G tc A ad0 ad n0 H locs ls Q hC hP hl hol hos
  have hx := hC.1
  have hb := hC.2.1
  refine lv_i2l (v := Int64.ofInt x) hx hb hd (by apply Int64.toInt_inj.mp; have h9 : ga_inI x := hos.head; rw [Int32.toInt_toInt64, ga_toI h9, ga_toL ⟨by have := h9.1; omega, by have := h9.2; omega⟩]) ?_
  exact k p l e R s m args below meth c G tc A ad0 ad n0 H locs ls Q hC hP hl hol (ga_oks.cons (v := Vl x) (by have h9 : ga_inI x := hos.head; exact ⟨by have := h9.1; omega, by have := h9.2; omega⟩) hos.tail)
theorem ga_l2i {x : Int} (hd : decode (ga_b M) pc = .ok (.l2i, 1)) (hn : ga_inI x) (k : ga_W t mc ms kc ks M P X (pc + 1) lv (Vi x :: st) h) : ga_W t mc ms kc ks M P X pc lv (Vl x :: st) h := by
  intro p l e R s m args below meth c G tc A ad0 ad n0 H locs ls Q hC hP hl hol hos
  have hx := hC.1
  have hb := hC.2.1
  refine lv_l2i (v := Int32.ofInt x) hx hb hd (by apply Int32.toInt_inj.mp; have h9 : ga_inL x := hos.head; rw [Int64.toInt_toInt32, ga_toL h9, ga_toI hn]; exact Int.bmod_eq_of_le (by have := hn.1; omega) (by have := hn.2; omega)) ?_
  exact k p l e R s m args below meth c G tc A ad0 ad n0 H locs ls Q hC hP hl hol (ga_oks.cons (v := Vi x) hn hos.tail)
theorem ga_lcmp {x y : Int} (hd : decode (ga_b M) pc = .ok (.lcmp, 1)) (k : ga_W t mc ms kc ks M P X (pc + 1) lv (Vi (if y < x then 1 else if x = y then 0 else -1) :: st) h) : ga_W t mc ms kc ks M P X pc lv (Vl y :: Vl x :: st) h := by
  intro p l e R s m args below meth c G tc A ad0 ad n0 H locs ls Q hC hP hl hol hos
  have hx := hC.1
  have hb := hC.2.1
  have hy9 : ga_inL y := hos.head
  have hx9 : ga_inL x := hos.tail.head
  refine W.lcmp hx hb hd ?_
  rw [show lg_cmp (Int64.ofInt x) (Int64.ofInt y) = Int32.ofInt (if y < x then 1 else if x = y then 0 else -1) from by
    unfold lg_cmp
    have e1 : Int64.ofInt x > Int64.ofInt y ↔ y < x := by
      show Int64.ofInt y < Int64.ofInt x ↔ _
      rw [Int64.lt_iff_toInt_lt, ga_toL hx9, ga_toL hy9]
    have e2 : Int64.ofInt x = Int64.ofInt y ↔ x = y := by rw [← Int64.toInt_inj, ga_toL hx9, ga_toL hy9]
    simp only [e1, e2]
    split
    · rfl
    · split <;> rfl]
  exact k p l e R s m args below meth c G tc A ad0 ad n0 H locs ls Q hC hP hl hol (ga_oks.cons (v := Vi _) (by split; exact ⟨by decide, by decide⟩; split <;> exact ⟨by decide, by decide⟩) hos.tail.tail)
theorem ga_land {x y : Int} (hd : decode (ga_b M) pc = .ok (.land, 1)) (k : ga_W t mc ms kc ks M P X (pc + 1) lv (Vl (Int64.ofInt x &&& Int64.ofInt y).toInt :: st) h) : ga_W t mc ms kc ks M P X pc lv (Vl y :: Vl x :: st) h := by
  intro p l e R s m args below meth c G tc A ad0 ad n0 H locs ls Q hC hP hl hol hos
  have hx := hC.1
  have hb := hC.2.1
  refine lv_land hx hb hd ?_
  rw [← ga_ofL (Int64.ofInt x &&& Int64.ofInt y)]
  exact k p l e R s m args below meth c G tc A ad0 ad n0 H locs ls Q hC hP hl hol (ga_oks.cons (v := Vl _) (ga_inL64 _) hos.tail.tail)
theorem ga_lor {x y : Int} (hd : decode (ga_b M) pc = .ok (.lor, 1)) (k : ga_W t mc ms kc ks M P X (pc + 1) lv (Vl (Int64.ofInt x ||| Int64.ofInt y).toInt :: st) h) : ga_W t mc ms kc ks M P X pc lv (Vl y :: Vl x :: st) h := by
  intro p l e R s m args below meth c G tc A ad0 ad n0 H locs ls Q hC hP hl hol hos
  have hx := hC.1
  have hb := hC.2.1
  refine lv_lor hx hb hd ?_
  rw [← ga_ofL (Int64.ofInt x ||| Int64.ofInt y)]
  exact k p l e R s m args below meth c G tc A ad0 ad n0 H locs ls Q hC hP hl hol (ga_oks.cons (v := Vl _) (ga_inL64 _) hos.tail.tail)
theorem ga_lshl {x y : Int} (hd : decode (ga_b M) pc = .ok (.lshl, 1)) (k : ga_W t mc ms kc ks M P X (pc + 1) lv (Vl (Int64.ofInt x <<< ((Int32.ofInt y).toInt64 &&& 63)).toInt :: st) h) : ga_W t mc ms kc ks M P X pc lv (Vi y :: Vl x :: st) h := by
  intro p l e R s m args below meth c G tc A ad0 ad n0 H locs ls Q hC hP hl hol hos
  have hx := hC.1
  have hb := hC.2.1
  refine lv_lshl hx hb hd (v := Int64.ofInt (Int64.ofInt x <<< ((Int32.ofInt y).toInt64 &&& 63)).toInt) (ga_ofL _).symm ?_
  exact k p l e R s m args below meth c G tc A ad0 ad n0 H locs ls Q hC hP hl hol (ga_oks.cons (v := Vl _) (ga_inL64 _) hos.tail.tail)
theorem ga_ladd {x y z : Int} (hd : decode (ga_b M) pc = .ok (.ladd, 1)) (hz : x + y = z) (hn : ga_inL z) (k : ga_W t mc ms kc ks M P X (pc + 1) lv (Vl z :: st) h) : ga_W t mc ms kc ks M P X pc lv (Vl y :: Vl x :: st) h := by
  intro p l e R s m args below meth c G tc A ad0 ad n0 H locs ls Q hC hP hl hol hos
  have hx := hC.1
  have hb := hC.2.1
  refine lv_ladd hx hb hd ?_
  rw [← Int64.ofInt_add, hz]
  exact k p l e R s m args below meth c G tc A ad0 ad n0 H locs ls Q hC hP hl hol (ga_oks.cons (v := Vl z) hn hos.tail.tail)
theorem ga_ishl {x y z : Int} (hd : decode (ga_b M) pc = .ok (.ishl, 1)) (hz : Int32.ofInt x <<< (Int32.ofInt y &&& 31) = Int32.ofInt z) (hn : ga_inI z) (k : ga_W t mc ms kc ks M P X (pc + 1) lv (Vi z :: st) h) : ga_W t mc ms kc ks M P X pc lv (Vi y :: Vi x :: st) h := by
  intro p l e R s m args below meth c G tc A ad0 ad n0 H locs ls Q hC hP hl hol hos
  have hx := hC.1
  have hb := hC.2.1
  refine lv_ishl hx hb hd ?_
  rw [hz]
  exact k p l e R s m args below meth c G tc A ad0 ad n0 H locs ls Q hC hP hl hol (ga_oks.cons (v := Vi z) hn hos.tail.tail)
theorem ga_ishr {x y z : Int} (hd : decode (ga_b M) pc = .ok (.ishr, 1)) (hz : Int32.ofInt x >>> (Int32.ofInt y &&& 31) = Int32.ofInt z) (hn : ga_inI z) (k : ga_W t mc ms kc ks M P X (pc + 1) lv (Vi z :: st) h) : ga_W t mc ms kc ks M P X pc lv (Vi y :: Vi x :: st) h := by
  intro p l e R s m args below meth c G tc A ad0 ad n0 H locs ls Q hC hP hl hol hos
  have hx := hC.1
  have hb := hC.2.1
  refine lv_ishr hx hb hd ?_
  rw [hz]
  exact k p l e R s m args below meth c G tc A ad0 ad n0 H locs ls Q hC hP hl hol (ga_oks.cons (v := Vi z) hn hos.tail.tail)
theorem ga_iand {x y z : Int} (hd : decode (ga_b M) pc = .ok (.iand, 1)) (hz : Int32.ofInt x &&& Int32.ofInt y = Int32.ofInt z) (hn : ga_inI z) (k : ga_W t mc ms kc ks M P X (pc + 1) lv (Vi z :: st) h) : ga_W t mc ms kc ks M P X pc lv (Vi y :: Vi x :: st) h := by
  intro p l e R s m args below meth c G tc A ad0 ad n0 H locs ls Q hC hP hl hol hos
  have hx := hC.1
  have hb := hC.2.1
  refine lv_iand hx hb hd ?_
  rw [hz]
  exact k p l e R s m args below meth c G tc A ad0 ad n0 H locs ls Q hC hP hl hol (ga_oks.cons (v := Vi z) hn hos.tail.tail)
theorem ga_ior {x y z : Int} (hd : decode (ga_b M) pc = .ok (.ior, 1)) (hz : Int32.ofInt x ||| Int32.ofInt y = Int32.ofInt z) (hn : ga_inI z) (k : ga_W t mc ms kc ks M P X (pc + 1) lv (Vi z :: st) h) : ga_W t mc ms kc ks M P X pc lv (Vi y :: Vi x :: st) h := by
  intro p l e R s m args below meth c G tc A ad0 ad n0 H locs ls Q hC hP hl hol hos
  have hx := hC.1
  have hb := hC.2.1
  refine lv_ior hx hb hd ?_
  rw [hz]
  exact k p l e R s m args below meth c G tc A ad0 ad n0 H locs ls Q hC hP hl hol (ga_oks.cons (v := Vi z) hn hos.tail.tail)
end GaRules
