-- contracts
def ga_Qc (G : va_G) (tc : Nat → ClassId) (A : Nat → Prop) (ad0 : Nat → Nat) (n0 : Nat) (P : ga_Po) : Array Value → State → Outcome → State → Prop := fun _ st oc t =>
  (∃ (v : Option ga_V) (h : ga_H) (ad : Nat → Nat), oc = .returned (v.map (ga_v ad)) ∧ P v h ∧ n0 ≤ h.length ∧ ga_ag n0 ad0 ad ∧ h.length ≤ 900000 ∧ ga_okh h ∧ (∀ x, v = some x → ga_ok h.length x) ∧ va_P G vwCl (ga_w tc ad h) t.heap ∧ va_D A (ga_w tc ad h)) ∧ va_F A st t
def ga_Xc (G : va_G) (tc : Nat → ClassId) (A : Nat → Prop) (ad0 : Nat → Nat) (n0 : Nat) (X : ga_Px) : String → State → State → Prop := fun E st t =>
  (∃ (h : ga_H) (ad : Nat → Nat), X E h ∧ n0 ≤ h.length ∧ ga_ag n0 ad0 ad ∧ h.length ≤ 900000 ∧ ga_okh h ∧ va_P G vwCl (ga_w tc ad h) t.heap ∧ va_D A (ga_w tc ad h)) ∧ va_F A st t
def ga_Pc (G : va_G) (tc : Nat → ClassId) (ad : Nat → Nat) (sz : Nat) (h : ga_H) (U : State) : Prop :=
  U.heap.size = sz ∧ h.length ≤ 900000 ∧ ga_okh h ∧ va_P G vwCl (ga_w tc ad h) U.heap ∧ va_K G vwCl (ga_tys tc) U ∧ va_D (fun _ => True) (ga_w tc ad h) ∧ ga_Z (va_A (ga_w tc ad h) sz) U ∧ ga_Str ga_strs U
def ga_head (M : ga_M0) : Cond := match ga_hh M with
  | [] => Cond.code (ga_y M) (ga_b M) (ga_n M) (ga_r M)
  | hh => Cond.codeWith (ga_y M) (ga_b M) (ga_n M) (ga_r M) hh
def ga_ws (M : ga_M0) : List Cond := ga_head M :: ga_big
def ga_rm (t mc ms : Nat) : Room := { frames := t, cells := mc, slots := ms, locals := 35 * t }
/-- a method's contract: from arguments and heap to P, or, thrown, to X -/
def ga_Mt (t mc ms : Nat) (M : ga_M0) (as : List ga_V) (h : ga_H) (P : ga_Po) (X : ga_Px) : Prop :=
  ∀ (l : Launch) (G : va_G) (tc : Nat → ClassId) (ad : Nat → Nat) (sz : Nat), l.stackTraces = false → (∀ v ∈ as, ga_ok h.length v) →
    vx_Met l (ga_y M) (ga_ws M) (ga_rm t mc ms) (va_Pc (as.map (ga_v ad)) (ga_Pc G tc ad sz h)) (ga_Qc G tc (va_A (ga_w tc ad h) sz) ad h.length P) (ga_Xc G tc (va_A (ga_w tc ad h) sz) ad h.length X) mc ms (va_A (ga_w tc ad h) sz)
abbrev ga_nox : ga_Px := fun _ _ => False
theorem ga_Pc.blind {G : va_G} {tc : Nat → ClassId} {ad : Nat → Nat} {sz : Nat} {h : ga_H} {av : List Value} : FrameBlind (va_Pc av (ga_Pc G tc ad sz h)) := fun a U g mk q => by
  obtain ⟨q0, q1, q2, q3, q4, q5, q6, q7, q8⟩ := q
  exact ⟨q0, q1, q2, q3, q4, va_K.moved (u := U) (U := U.calling g mk a) (Vm.Alike.refl U.vm) q5, q6, ⟨vx_Zq.moved (u := U) (U := U.calling g mk a) (Vm.Alike.refl U.vm) q7.1, vx_Zq.moved (u := U) (U := U.calling g mk a) (Vm.Alike.refl U.vm) q7.2⟩, ⟨fun w hw => by obtain ⟨sa, hs⟩ := q8.1 w hw; exact ⟨sa, vk_R.same (u := U) (U := U.calling g mk a) rfl hs⟩, fun w hw => va_Nc.moved (u := U) (U := U.calling g mk a) (Vm.Alike.refl U.vm) (q8.2 w hw)⟩⟩
-- a method's entry
def ga_lv0 : List ga_V → List (Option ga_V)
  | [] => []
  | v :: t => if ga_c2 v then some v :: none :: ga_lv0 t else some v :: ga_lv0 t
theorem ga_l_none (ad : Nat → Nat) : ∀ (n i : Nat), ga_l ad i (List.replicate n none) = []
  | 0, _ => rfl
  | n + 1, i => by rw [List.replicate_succ, ga_l]; exact ga_l_none ad n (i + 1)
theorem ga_l_args (ad : Nat → Nat) (n : Nat) : ∀ (as : List ga_V) (i : Nat), ga_l ad i (ga_lv0 as ++ List.replicate n none) = lv_args i (as.map (ga_v ad))
  | [], i => by rw [ga_lv0, List.nil_append, ga_l_none]; rfl
  | v :: t, i => by
    rw [ga_lv0, List.map_cons, lv_args, ga_cat]
    cases hc : ga_c2 v with
    | true =>
      simp only [if_true, List.cons_append, ga_l]
      rw [ga_l_args ad n t]
    | false =>
      simp only [Bool.false_eq_true, if_false, List.cons_append, ga_l, show ¬ (1 : Nat) = 2 from by decide]
      rw [ga_l_args ad n t]
theorem ga_lv0_len (ad : Nat → Nat) : ∀ as : List ga_V, (lg_sl (as.map (ga_v ad))).length = (ga_lv0 as).length
  | [] => rfl
  | v :: t => by
    have ih := ga_lv0_len ad t
    unfold lg_sl at ih ⊢
    rw [List.map_cons, List.flatMap_cons, List.length_append, ih, ga_lv0, ga_cat]
    cases ga_c2 v <;> simp <;> omega
theorem ga_E_met {p : Program} {l : Launch} {e : Env} {R : Room} {s : State} {m : MethodId} {args : Array Value} {below : List Frame} {meth : Method} {c : Code} {G : va_G} {tc : Nat → ClassId} {A : Nat → Prop} {ad0 : Nat → Nat} {n0 mc ms : Nat} {M : ga_M0} {P : ga_Po} {X : ga_Px}
    (hx : p.tables.exec = Jvm.exec) (hb : c.code = ga_b M) (hr : meth.sig.returnType = ga_r M) (hlk : meth.locks = false) :
    ga_E p l e R s m args below meth c G tc A ad0 n0 (vx_MQ below (ga_Qc G tc A ad0 n0 P) (ga_Xc G tc A ad0 n0 X) args s mc ms A) mc ms M P X := by
  refine ⟨fun v h ad H locs k n pc ls hP hPic hok hk hn hR => ?_, Or.inr ⟨_, _, rfl, fun E h ad H locs t hX hPic ht _ => ?_⟩⟩
  · refine W.widen hk hn (vx_ret ?_)
    obtain ⟨g1, g2, g3, g4, g5, g6, g7⟩ := hPic
    have hpost : ∀ t : State, t.heap = H → s.WarmedH t.vm → ga_Qc G tc A ad0 n0 P args s (.returned (v.map (ga_v ad))) t := fun t ht _ => ⟨⟨v, h, ad, rfl, hP, g1, g2, g3, g4, hok, by rw [ht]; exact g5, g6⟩, g7.F ht⟩
    rcases v with _ | x | x | x | x
    · exact W.vret hx hb (hr.trans hR.2) hpost g7.2.2 hR.1 hlk
    · obtain ⟨hR1, ty, hR2, hR3⟩ := hR
      exact W.zret (v := Int32.ofInt x) hx hb (hr.trans hR2) hR3 hpost g7.2.2 hR1 hlk
    · obtain ⟨hR1, ty, hR2, hR3⟩ := hR
      exact W.aret (v := ga_v ad (.inr (.inl x))) hx hb (hr.trans hR2) hR3 (by rcases x with _ | k9; exact Or.inl rfl; exact Or.inr ⟨_, rfl⟩) hpost g7.2.2 hR1 hlk
    · exact W.dret (v := x) hx hb (hr.trans hR.2) hpost g7.2.2 hR.1 hlk
    · exact hR.elim
  · obtain ⟨g1, g2, g3, g4, g5, g6, g7⟩ := hPic
    exact ⟨⟨h, ad, hX, g1, g2, g3, g4, by rw [ht]; exact g5, g6⟩, g7.F ht⟩
theorem ga_body {l : Launch} {t mc ms : Nat} {M : ga_M0} {as : List ga_V} {h : ga_H} {P : ga_Po} {X : ga_Px} {lv : List (Option ga_V)} {G : va_G} {tc : Nat → ClassId} {ad : Nat → Nat} {sz : Nat} (hl : l.stackTraces = false) (has : ∀ v ∈ as, ga_ok h.length v) (hsc : ga_sc M = none) (hn : (ga_lv0 as).length ≤ ga_n M) (hlv : ga_lv0 as ++ List.replicate (ga_n M - (ga_lv0 as).length) none = lv) (k : ga_W t mc ms 0 0 M P X 0 lv [] h)
    {p : Program} {e : Env} {s : State} {m : MethodId} {args : Array Value} {below : List Frame} {meth : Method} {c : Code} {s₁ : State} (B : BodyLoose p l (ga_y M) (headSpec (ga_ws M) (ga_rm t mc ms)) (ga_b M) (ga_n M) (ga_r M) e s m args below meth c s₁) (hml : c.maxLocals = ga_n M) (htb : c.exceptionTable.toList = tableOf (ga_hh M)) (hv : va_Pc (as.map (ga_v ad)) (ga_Pc G tc ad sz h) args s) :
    W p l e (ga_rm t mc ms) s m args below meth c s.heap [] 0 0 (vx_MQ below (ga_Qc G tc (va_A (ga_w tc ad h) sz) ad h.length P) (ga_Xc G tc (va_A (ga_w tc ad h) sz) ad h.length X) args s mc ms (va_A (ga_w tc ad h) sz)) (entryFrame m args (ga_n M)) := by
  obtain ⟨rfl, hsz, hlen, hoh, hP, hK, hD0, hZ, hStr⟩ := hv
  subst hsz
  have hts0 : ∀ w ∈ ga_ws M, w.before (as.map (ga_v ad)).toArray s = true := atoms_spec (ws := ga_ws M) B.pre
  have hls := lv_entry (as.map (ga_v ad)) (n := ga_n M) (by rw [ga_lv0_len]; exact hn)
  rw [lg_entry_eq]
  rw [← ga_l_args ad (ga_n M - (ga_lv0 as).length) as 0, hlv] at hls
  refine k p l e (ga_rm t mc ms) s m (as.map (ga_v ad)).toArray below meth c G tc (va_A (ga_w tc ad h) s.heap.size) ad ad h.length s.heap [] _ _ ⟨B.exec, B.bytes, hml, B.returns, findClass_of_methodNamed B.named, fun w hw => hts0 w (List.mem_cons_of_mem _ hw), hK, fun q hq => Or.inr hq, B.notSynchronized, fun hi => ?_, hl, htb, hZ, hStr, fun L xs hq => ?_, ⟨rfl, rfl, Nat.le_refl _, Nat.le_refl _⟩, ga_E_met B.exec B.bytes B.returns B.notSynchronized⟩ ⟨Nat.le_refl _, fun _ _ => rfl, hlen, hoh, hP, hD0.self, va_S.rf⟩ hls ?_ (fun v hv => by cases hv)
  · exact ((name_of_methodNamed B.named B.method).1).trans hi
  · rw [hsc] at hq; cases hq
  · intro v hv
    rw [← hlv] at hv
    rcases List.mem_append.mp hv with z | z
    · have key : ∀ (bs : List ga_V), some v ∈ ga_lv0 bs → v ∈ bs := by
        intro bs
        induction bs with
        | nil => intro q; cases q
        | cons w r ih =>
          intro q
          rw [ga_lv0] at q
          split at q
          · rcases List.mem_cons.mp q with q | q
            · cases q; exact List.mem_cons_self
            · rcases List.mem_cons.mp q with q | q
              · cases q
              · exact List.mem_cons_of_mem _ (ih q)
          · rcases List.mem_cons.mp q with q | q
            · cases q; exact List.mem_cons_self
            · exact List.mem_cons_of_mem _ (ih q)
      exact has v (key as z)
    · have := List.eq_of_mem_replicate z
      cases this
theorem ga_meth {t mc ms : Nat} {M : ga_M0} {as : List ga_V} {h : ga_H} {P : ga_Po} {X : ga_Px} (lv : List (Option ga_V)) (hsc : ga_sc M = none) (hhh : ga_hh M = []) (hy : plainName (ga_y M).cls = true) (hn : (ga_lv0 as).length ≤ ga_n M) (hlv : ga_lv0 as ++ List.replicate (ga_n M - (ga_lv0 as).length) none = lv) (k : ga_W t mc ms 0 0 M P X 0 lv [] h) : ga_Mt t mc ms M as h P X := by
  intro l G tc ad sz hl has
  refine vx_ofW (cc := ga_b M) (maxL := ga_n M) (ret := ga_r M) (ws' := ga_big) hy (by unfold ga_ws ga_head; rw [hhh]) (fun p e s m args below meth c s₁ B hml htab hv => ?_)
  exact ga_body hl has hsc hn hlv k B hml (by rw [hhh]; exact List.eq_nil_iff_forall_not_mem.mpr htab) hv
theorem ga_methH {t mc ms : Nat} {M : ga_M0} {as : List ga_V} {h : ga_H} {P : ga_Po} {X : ga_Px} (lv : List (Option ga_V)) (hsc : ga_sc M = none) (hhh : ga_head M = Cond.codeWith (ga_y M) (ga_b M) (ga_n M) (ga_r M) (ga_hh M)) (hy : plainName (ga_y M).cls = true) (hn : (ga_lv0 as).length ≤ ga_n M) (hlv : ga_lv0 as ++ List.replicate (ga_n M - (ga_lv0 as).length) none = lv) (k : ga_W t mc ms 0 0 M P X 0 lv [] h) : ga_Mt t mc ms M as h P X := by
  intro l G tc ad sz hl has
  refine vx_ofWH (cc := ga_b M) (maxL := ga_n M) (ret := ga_r M) (ws' := ga_big) (hh := ga_hh M) hy (by unfold ga_ws; rw [hhh]) (fun p e s m args below meth c s₁ B hml hv => ?_)
  refine ga_body hl has hsc hn hlv k B hml ?_ hv
  exact vx_table (x := ga_y M) B (atoms_spec (ws := ga_ws M) B.pre _ (by unfold ga_ws; rw [hhh]; exact List.mem_cons_self))
-- weaker ends
theorem ga_Mt.mono {t mc ms : Nat} {M : ga_M0} {as : List ga_V} {h : ga_H} {P P2 : ga_Po} {X X2 : ga_Px} (hM : ga_Mt t mc ms M as h P X) (hp : ∀ v h2, P v h2 → P2 v h2) (hx : ∀ E h2, X E h2 → X2 E h2) : ga_Mt t mc ms M as h P2 X2 := by
  intro l G tc ad sz hl has p e ha hc hk s m args below hf happ hpre hk2
  obtain ⟨n, o, h1, h2, h3, hQ⟩ := hM l G tc ad sz hl has p e ha hc hk s m args below hf happ hpre hk2
  refine ⟨n, o, h1, h2, h3, ?_⟩
  rcases hQ with ⟨⟨⟨v, hh, ad2, q1, q2, q3⟩, q4⟩, q5⟩ | ⟨q, q1, E, ce, L, ⟨⟨hh, ad2, q2, q3⟩, q4⟩, q5⟩
  · exact Or.inl ⟨⟨⟨v, hh, ad2, q1, hp _ _ q2, q3⟩, q4⟩, q5⟩
  · exact Or.inr ⟨q, q1, E, ce, L, ⟨⟨hh, ad2, hx _ _ q2, q3⟩, q4⟩, q5⟩
theorem ga_met {l : Launch} {y : MethodName} {ws : List Cond} {rm : Room} {Pc : Array Value → State → Prop} {Qc : Array Value → State → Outcome → State → Prop} {XC : String → State → State → Prop} {mc ms : Nat} {free : Addr → Prop} (hM : vx_Met l y ws rm Pc Qc XC mc ms free) (hx : ∀ E st t, ¬ XC E st t) : Met l y ws rm Pc Qc mc ms free := by
  intro p e ha hc hk s m args below hf happ hpre hk2
  obtain ⟨n, o, h1, h2, h3, hQ⟩ := hM p e ha hc hk s m args below hf happ hpre hk2
  refine ⟨n, o, h1, h2, h3, ?_⟩
  rcases hQ with hQ | ⟨q, q1, E, ce, L, hXC, -⟩
  · exact hQ
  · exact absurd hXC (hx _ _ _)
