-- the heap of class, reference and answer cell behind their constructors: its shape, and what it holds
abbrev ga_FK : Type := Nat ⊕ Bool ⊕ Int
abbrev ga_Sh : Type := (Nat × List ga_FK) ⊕ (Nat × Nat)
def SH : List ga_Sh := [.inl (10, [.inl 1, .inl 19, .inl 21, .inl 38, .inl 55, .inl 60, .inr (.inl false), .inr (.inl false)]), .inl (1, [.inl 2, .inl 9, .inl 16]), .inl (9, [.inr (.inl false), .inl 3, .inl 4, .inr (.inl false), .inl 5, .inl 6, .inl 7, .inl 8]), .inr (0, 40), .inr (1, 40), .inr (0, 30), .inr (2, 30), .inr (1, 30), .inr (0, 120), .inl (9, [.inr (.inl false), .inl 10, .inl 11, .inr (.inl false), .inl 12, .inl 13, .inl 14, .inl 15]), .inr (0, 40), .inr (1, 40), .inr (0, 30), .inr (2, 30), .inr (1, 30), .inr (0, 120), .inl (4, [.inl 17, .inl 18]), .inr (0, 32), .inr (2, 8), .inl (3, [.inl 20]), .inr (0, 40), .inl (0, [.inl 22, .inl 29, .inr (.inl false), .inl 36, .inl 37]), .inl (7, [.inr (.inr 60), .inr (.inr 4), .inr (.inl false), .inl 23, .inl 24, .inl 25, .inl 26, .inl 27, .inl 28]), .inr (0, 60), .inr (0, 240), .inr (0, 60), .inr (0, 60), .inr (0, 60), .inr (0, 60), .inl (7, [.inr (.inr 80), .inr (.inr 120), .inr (.inl false), .inl 30, .inl 31, .inl 32, .inl 33, .inl 34, .inl 35]), .inr (0, 80), .inr (0, 9600), .inr (0, 80), .inr (0, 80), .inr (0, 80), .inr (0, 80), .inr (0, 60), .inr (0, 60), .inl (8, [.inr (.inl false), .inl 39, .inl 40, .inl 41, .inl 42, .inl 46, .inl 50, .inl 51, .inl 52, .inl 53, .inl 54]), .inr (0, 30), .inr (0, 30), .inr (1, 30), .inl (6, [.inl 43, .inr (.inl false), .inl 44, .inl 45]), .inr (0, 40), .inr (0, 4), .inr (0, 4), .inl (6, [.inl 47, .inr (.inl false), .inl 48, .inl 49]), .inr (0, 40), .inr (0, 4), .inr (0, 4), .inr (0, 4), .inr (0, 30), .inr (0, 120), .inr (0, 120), .inr (0, 120), .inl (5, [.inr (.inl false), .inl 56, .inl 57, .inl 58, .inl 59]), .inr (0, 30), .inr (0, 30), .inr (0, 40), .inr (0, 40), .inl (2, [.inr (.inl false), .inl 61, .inl 62]), .inr (0, 356), .inr (1, 60), .inl (11, [.inr (.inl false), .inl 64, .inl 65, .inl 66, .inl 67, .inl 68, .inl 69, .inl 70, .inl 71, .inl 72, .inl 73, .inl 74, .inl 75, .inl 76, .inr (.inl false), .inr (.inl false), .inl 77, .inr (.inl false), .inr (.inl false), .inl 78, .inl 79, .inl 80, .inr (.inl false), .inl 81, .inl 82, .inl 83, .inl 84, .inl 85, .inl 86, .inl 87, .inr (.inl true), .inr (.inl true)]), .inr (0, 80), .inr (0, 2), .inr (0, 60), .inr (2, 60), .inr (1, 60), .inr (0, 240), .inr (0, 2), .inr (0, 32), .inr (2, 8), .inr (0, 60), .inr (0, 80), .inr (0, 60), .inr (0, 80), .inr (0, 800), .inr (0, 60), .inr (0, 40), .inr (0, 30), .inr (0, 31), .inr (1, 80), .inr (0, 40), .inr (0, 2480), .inr (0, 80), .inr (1, 80), .inr (0, 80), .inr (3, 1)]
abbrev ga_S : Type := (Nat → Int → Int) × (Nat → Int → UInt64)
def ga_f1 (σ : ga_S) (q k : Nat) : ga_FK → ga_V
  | .inl r => Vr r
  | .inr (.inl false) => Vi (σ.1 q k)
  | .inr (.inl true) => Vl (σ.1 q k)
  | .inr (.inr c) => Vi c
def ga_fv (σ : ga_S) (q : Nat) : Nat → List ga_FK → List ga_V
  | _, [] => []
  | k, f :: t => ga_f1 σ q k f :: ga_fv σ q (k + 1) t
def ga_cf (σ : ga_S) (q : Nat) : ga_Sh → ga_K
  | .inl o => .inl (o.1, ga_fv σ q 0 o.2)
  | .inr (2, n) => .inr (.inr (.inl (n, σ.2 q)))
  | .inr (3, n) => .inr (.inr (.inr (n, σ.1 q)))
  | .inr (tc, n) => .inr (.inl (tc, n, σ.1 q))
def HP (σ : ga_S) : ga_H := SH.mapIdx (fun q s => ga_cf σ q s)
theorem HP_get {σ : ga_S} {q : Nat} {s : ga_Sh} (h : SH[q]? = some s) : (HP σ)[q]? = some (ga_cf σ q s) := by
  unfold HP
  rw [List.getElem?_mapIdx, h]; rfl
theorem HP_len (σ : ga_S) : (HP σ).length = 89 := by
  unfold HP
  rw [List.length_mapIdx]; rfl
theorem ga_f1_congr {σ σ' : ga_S} {q : Nat} (h : σ'.1 q = σ.1 q) (k : Nat) (f : ga_FK) : ga_f1 σ' q k f = ga_f1 σ q k f := by
  rcases f with r | (_ | _) | c <;> simp only [ga_f1, h]
theorem ga_fv_congr {σ σ' : ga_S} {q : Nat} (h : σ'.1 q = σ.1 q) : ∀ (fl : List ga_FK) (k : Nat), ga_fv σ' q k fl = ga_fv σ q k fl
  | [], _ => rfl
  | f :: t, k => by rw [ga_fv, ga_fv, ga_f1_congr h, ga_fv_congr h t]
theorem ga_cf_congr {σ σ' : ga_S} {q : Nat} (h : σ'.1 q = σ.1 q) (h2 : σ'.2 q = σ.2 q) (s : ga_Sh) : ga_cf σ' q s = ga_cf σ q s := by
  rcases s with o | ⟨tc, n⟩
  · show Sum.inl _ = Sum.inl _
    rw [ga_fv_congr h]
  · unfold ga_cf
    split <;> simp_all
theorem HP_set {σ σ' : ga_S} {q : Nat} {s : ga_Sh} (hs : SH[q]? = some s) (h : ∀ c, c ≠ q → σ'.1 c = σ.1 c ∧ σ'.2 c = σ.2 c) : (HP σ).set q (ga_cf σ' q s) = HP σ' := by
  apply List.ext_getElem?
  intro i
  by_cases hi : q = i
  · subst hi
    rw [List.getElem?_set_self (by rw [HP_len]; exact (List.getElem?_eq_some_iff.mp hs).1), HP_get hs]
  · rw [List.getElem?_set_ne hi]
    unfold HP
    rw [List.getElem?_mapIdx, List.getElem?_mapIdx]
    cases SH[i]? with
    | none => rfl
    | some s2 =>
      obtain ⟨a, b⟩ := h i (Ne.symm hi)
      exact congrArg some (ga_cf_congr a b s2).symm
/-- the content of a cell of whole numbers, of a row of doubles, put anew -/
def stI (σ : ga_S) (q : Nat) (f : Int → Int) : ga_S := (fun c => if c = q then f else σ.1 c, σ.2)
def stD (σ : ga_S) (q : Nat) (f : Int → UInt64) : ga_S := (σ.1, fun c => if c = q then f else σ.2 c)
theorem stI_at (σ : ga_S) (q : Nat) (f : Int → Int) : (stI σ q f).1 q = f := if_pos rfl
theorem stI_ne (σ : ga_S) {q c : Nat} (f : Int → Int) (h : c ≠ q) : (stI σ q f).1 c = σ.1 c := if_neg h
theorem stD_at (σ : ga_S) (q : Nat) (f : Int → UInt64) : (stD σ q f).2 q = f := if_pos rfl
theorem stD_ne (σ : ga_S) {q c : Nat} (f : Int → UInt64) (h : c ≠ q) : (stD σ q f).2 c = σ.2 c := if_neg h
theorem stI_st (σ : ga_S) (q : Nat) (f g : Int → Int) : stI (stI σ q f) q g = stI σ q g := by
  unfold stI
  congr 1
  funext c
  dsimp only
  split <;> rfl
theorem stI_self (σ : ga_S) (q : Nat) : stI σ q (σ.1 q) = σ := by
  unfold stI
  congr 1
  funext c
  split
  · rename_i h; rw [h]
  · rfl
theorem stI_comm (σ : ga_S) {q r : Nat} (h : q ≠ r) (f g : Int → Int) : stI (stI σ q f) r g = stI (stI σ r g) q f := by
  unfold stI
  congr 1
  funext c
  dsimp only
  by_cases h1 : c = r
  · by_cases h2 : c = q
    · omega
    · rw [if_pos h1, if_neg h2, if_pos h1]
  · rw [if_neg h1, if_neg h1]
theorem stD_st (σ : ga_S) (q : Nat) (f g : Int → UInt64) : stD (stD σ q f) q g = stD σ q g := by
  unfold stD
  congr 1
  funext c
  dsimp only
  split <;> rfl
theorem ga_up_at {α : Type} (f : Int → α) (i : Int) (x : α) : ga_up f i x i = x := if_pos rfl
theorem ga_up_ne {α : Type} (f : Int → α) {i j : Int} (x : α) (h : j ≠ i) : ga_up f i x j = f j := if_neg h
theorem ga_up_up {α : Type} (f : Int → α) (i : Int) (x y : α) : ga_up (ga_up f i x) i y = ga_up f i y := by
  funext j
  unfold ga_up
  split <;> rfl
theorem ga_fv_len (σ : ga_S) (q : Nat) : ∀ (fl : List ga_FK) (k : Nat), (ga_fv σ q k fl).length = fl.length
  | [], _ => rfl
  | f :: t, k => by rw [ga_fv, List.length_cons, List.length_cons, ga_fv_len σ q t]
theorem ga_fv_get (σ : ga_S) (q : Nat) : ∀ (fl : List ga_FK) (k j : Nat), (ga_fv σ q k fl)[j]? = fl[j]?.map (ga_f1 σ q (k + j))
  | [], k, j => rfl
  | f :: t, k, j => by
    cases j with
    | zero => rfl
    | succ j => rw [ga_fv, List.getElem?_cons_succ, List.getElem?_cons_succ, ga_fv_get σ q t, show k + 1 + j = k + (j + 1) by omega]
theorem ga_fv_set {σ : ga_S} {q j : Nat} {v : ga_V} {x : Int} {fl : List ga_FK} (hv : ∀ f, fl[j]? = some f → ga_f1 (stI σ q (ga_up (σ.1 q) j x)) q j f = v) : (ga_fv σ q 0 fl).set j v = ga_fv (stI σ q (ga_up (σ.1 q) j x)) q 0 fl := by
  apply List.ext_getElem?
  intro i
  by_cases hi : j = i
  · subst hi
    rw [ga_fv_get, Nat.zero_add]
    cases hf : fl[j]? with
    | none =>
      show _ = none
      rw [List.getElem?_eq_none_iff, List.length_set, ga_fv_len]
      exact List.getElem?_eq_none_iff.mp hf
    | some f =>
      rw [List.getElem?_set_self (by rw [ga_fv_len]; exact (List.getElem?_eq_some_iff.mp hf).1)]
      show some v = some _
      rw [hv f hf]
  · rw [List.getElem?_set_ne hi, ga_fv_get, ga_fv_get, Nat.zero_add]
    cases fl[i]? with
    | none => rfl
    | some f =>
      show some _ = some _
      have e9 : (stI σ q (ga_up (σ.1 q) j x)).1 q i = σ.1 q i := by rw [stI_at, ga_up_ne]; omega
      rcases f with r | (_ | _) | c <;> simp only [ga_f1, e9]
theorem HP_put {σ : ga_S} {q ci j : Nat} {fl : List ga_FK} {x : Int} {v : ga_V} (hq : SH[q]? = some (.inl (ci, fl))) (hv : ∀ f, fl[j]? = some f → ga_f1 (stI σ q (ga_up (σ.1 q) j x)) q j f = v) : (HP σ).set q (.inl (ci, (ga_fv σ q 0 fl).set j v)) = HP (stI σ q (ga_up (σ.1 q) j x)) := by
  rw [ga_fv_set (x := x) hv]
  have e9 := HP_set (σ := σ) (σ' := stI σ q (ga_up (σ.1 q) j x)) hq (fun c hc => ⟨stI_ne σ _ hc, rfl⟩)
  exact e9
theorem HP_st0 {σ : ga_S} {q n : Nat} {f : Int → Int} (hq : SH[q]? = some (.inr (0, n))) : (HP σ).set q (.inr (.inl (0, n, f))) = HP (stI σ q f) := by
  have e9 := HP_set (σ := σ) (σ' := stI σ q f) hq (fun c hc => ⟨stI_ne σ _ hc, rfl⟩)
  have e8 : ga_cf (stI σ q f) q (.inr (0, n)) = .inr (.inl (0, n, (stI σ q f).1 q)) := rfl
  rw [e8, stI_at] at e9
  exact e9
theorem HP_st1 {σ : ga_S} {q n : Nat} {f : Int → Int} (hq : SH[q]? = some (.inr (1, n))) : (HP σ).set q (.inr (.inl (1, n, f))) = HP (stI σ q f) := by
  have e9 := HP_set (σ := σ) (σ' := stI σ q f) hq (fun c hc => ⟨stI_ne σ _ hc, rfl⟩)
  have e8 : ga_cf (stI σ q f) q (.inr (1, n)) = .inr (.inl (1, n, (stI σ q f).1 q)) := rfl
  rw [e8, stI_at] at e9
  exact e9
theorem HP_st2 {σ : ga_S} {q n : Nat} {f : Int → UInt64} (hq : SH[q]? = some (.inr (2, n))) : (HP σ).set q (.inr (.inr (.inl (n, f)))) = HP (stD σ q f) := by
  have e9 := HP_set (σ := σ) (σ' := stD σ q f) hq (fun c hc => ⟨rfl, stD_ne σ _ hc⟩)
  have e8 : ga_cf (stD σ q f) q (.inr (2, n)) = .inr (.inr (.inl (n, (stD σ q f).2 q))) := rfl
  rw [e8, stD_at] at e9
  exact e9
theorem HP_st3 {σ : ga_S} {q n : Nat} {f : Int → Int} (hq : SH[q]? = some (.inr (3, n))) : (HP σ).set q (.inr (.inr (.inr (n, f)))) = HP (stI σ q f) := by
  have e9 := HP_set (σ := σ) (σ' := stI σ q f) hq (fun c hc => ⟨stI_ne σ _ hc, rfl⟩)
  have e8 : ga_cf (stI σ q f) q (.inr (3, n)) = .inr (.inr (.inr (n, (stI σ q f).1 q))) := rfl
  rw [e8, stI_at] at e9
  exact e9
section HpRules
variable {t mc ms kc ks : Nat} {M : ga_M0} {P : ga_Po} {X : ga_Px} {pc : Nat} {lv : List (Option ga_V)} {st : List ga_V} {σ : ga_S}
theorem hg_getR {idx ci j q : Nat} {ty : FieldType} {fl : List ga_FK} {r : Nat} (hF : ga_FR (ga_y M).cls idx ci j ty) (hd : decode (ga_b M) pc = .ok (.getfield idx, 3)) (hq : SH[q]? = some (.inl (ci, fl))) (hj : fl[j]? = some (.inl r)) (k : ga_W t mc ms kc ks M P X (pc + 3) lv (Vr r :: st) (HP σ)) : ga_W t mc ms kc ks M P X pc lv (Vr q :: st) (HP σ) :=
  ga_get hF hd (HP_get hq) (v := Vr r) (by rw [ga_fv_get, hj, Nat.zero_add]; rfl) k
theorem hg_getI (jz : Int) {idx ci j q : Nat} {ty : FieldType} {fl : List ga_FK} (hF : ga_FR (ga_y M).cls idx ci j ty) (hd : decode (ga_b M) pc = .ok (.getfield idx, 3)) (hq : SH[q]? = some (.inl (ci, fl))) (hj : fl[j]? = some (.inr (.inl false))) (hz : (j : Int) = jz) (k : ga_W t mc ms kc ks M P X (pc + 3) lv (Vi (σ.1 q jz) :: st) (HP σ)) : ga_W t mc ms kc ks M P X pc lv (Vr q :: st) (HP σ) := by
  subst hz
  exact ga_get hF hd (HP_get hq) (v := Vi (σ.1 q j)) (by rw [ga_fv_get, hj, Nat.zero_add]; rfl) k
theorem hg_getL (jz : Int) {idx ci j q : Nat} {ty : FieldType} {fl : List ga_FK} (hF : ga_FR (ga_y M).cls idx ci j ty) (hd : decode (ga_b M) pc = .ok (.getfield idx, 3)) (hq : SH[q]? = some (.inl (ci, fl))) (hj : fl[j]? = some (.inr (.inl true))) (hz : (j : Int) = jz) (k : ga_W t mc ms kc ks M P X (pc + 3) lv (Vl (σ.1 q jz) :: st) (HP σ)) : ga_W t mc ms kc ks M P X pc lv (Vr q :: st) (HP σ) := by
  subst hz
  exact ga_get hF hd (HP_get hq) (v := Vl (σ.1 q j)) (by rw [ga_fv_get, hj, Nat.zero_add]; rfl) k
theorem hg_getC {idx ci j q : Nat} {ty : FieldType} {fl : List ga_FK} {c : Int} (hF : ga_FR (ga_y M).cls idx ci j ty) (hd : decode (ga_b M) pc = .ok (.getfield idx, 3)) (hq : SH[q]? = some (.inl (ci, fl))) (hj : fl[j]? = some (.inr (.inr c))) (k : ga_W t mc ms kc ks M P X (pc + 3) lv (Vi c :: st) (HP σ)) : ga_W t mc ms kc ks M P X pc lv (Vr q :: st) (HP σ) :=
  ga_get hF hd (HP_get hq) (v := Vi c) (by rw [ga_fv_get, hj, Nat.zero_add]; rfl) k
theorem hg_putI (jz : Int) {idx ci j q : Nat} {fl : List ga_FK} {x : Int} (hF : ga_FS (ga_y M).cls idx ci j false .int) (hd : decode (ga_b M) pc = .ok (.putfield idx, 3)) (hq : SH[q]? = some (.inl (ci, fl))) (hj : fl[j]? = some (.inr (.inl false))) (hz : (j : Int) = jz) (k : ga_W t mc ms kc ks M P X (pc + 3) lv st (HP (stI σ q (ga_up (σ.1 q) jz x)))) : ga_W t mc ms kc ks M P X pc lv (Vi x :: Vr q :: st) (HP σ) := by
  subst hz
  exact ga_put hF hd (HP_get hq) (by rw [ga_fv_len]; exact (List.getElem?_eq_some_iff.mp hj).1) (fun ad => rfl) (fun ad => rfl) (HP_put hq (fun f hf => by rw [hj] at hf; cases hf; unfold ga_f1; simp only [stI_at, ga_up_at])) k
theorem hg_putZ (jz : Int) {idx ci j q : Nat} {fl : List ga_FK} {x : Int} (hF : ga_FS (ga_y M).cls idx ci j false .boolean) (hd : decode (ga_b M) pc = .ok (.putfield idx, 3)) (hq : SH[q]? = some (.inl (ci, fl))) (hj : fl[j]? = some (.inr (.inl false))) (hb : x = 0 ∨ x = 1) (hz : (j : Int) = jz) (k : ga_W t mc ms kc ks M P X (pc + 3) lv st (HP (stI σ q (ga_up (σ.1 q) jz x)))) : ga_W t mc ms kc ks M P X pc lv (Vi x :: Vr q :: st) (HP σ) := by
  subst hz
  exact ga_put hF hd (HP_get hq) (by rw [ga_fv_len]; exact (List.getElem?_eq_some_iff.mp hj).1) (fun ad => by rcases hb with z | z <;> subst z <;> rfl) (fun ad => by rcases hb with z | z <;> subst z <;> rfl) (HP_put hq (fun f hf => by rw [hj] at hf; cases hf; unfold ga_f1; simp only [stI_at, ga_up_at])) k
theorem hg_putL (jz : Int) {idx ci j q : Nat} {fl : List ga_FK} {x : Int} (hF : ga_FS (ga_y M).cls idx ci j false .long) (hd : decode (ga_b M) pc = .ok (.putfield idx, 3)) (hq : SH[q]? = some (.inl (ci, fl))) (hj : fl[j]? = some (.inr (.inl true))) (hz : (j : Int) = jz) (k : ga_W t mc ms kc ks M P X (pc + 3) lv st (HP (stI σ q (ga_up (σ.1 q) jz x)))) : ga_W t mc ms kc ks M P X pc lv (Vl x :: Vr q :: st) (HP σ) := by
  subst hz
  exact ga_put hF hd (HP_get hq) (by rw [ga_fv_len]; exact (List.getElem?_eq_some_iff.mp hj).1) (fun ad => rfl) (fun ad => rfl) (HP_put hq (fun f hf => by rw [hj] at hf; cases hf; unfold ga_f1; simp only [stI_at, ga_up_at])) k
theorem hg_iald {q n : Nat} {i : Int} (hd : decode (ga_b M) pc = .ok (.iaload, 1)) (hq : SH[q]? = some (.inr (0, n))) (h0 : 0 ≤ i) (h1 : i < n) (k : ga_W t mc ms kc ks M P X (pc + 1) lv (Vi (σ.1 q i) :: st) (HP σ)) : ga_W t mc ms kc ks M P X pc lv (Vi i :: Vr q :: st) (HP σ) :=
  ga_iaload hd (HP_get hq) h0 h1 k
theorem hg_zald {q n : Nat} {i : Int} (hd : decode (ga_b M) pc = .ok (.baload, 1)) (hq : SH[q]? = some (.inr (1, n))) (h0 : 0 ≤ i) (h1 : i < n) (k : ga_W t mc ms kc ks M P X (pc + 1) lv (Vi (σ.1 q i) :: st) (HP σ)) : ga_W t mc ms kc ks M P X pc lv (Vi i :: Vr q :: st) (HP σ) :=
  ga_zaload hd (HP_get hq) h0 h1 k
theorem hg_dald {q n : Nat} {i : Int} (hd : decode (ga_b M) pc = .ok (.daload, 1)) (hq : SH[q]? = some (.inr (2, n))) (h0 : 0 ≤ i) (h1 : i < n) (k : ga_W t mc ms kc ks M P X (pc + 1) lv (Vd (σ.2 q i) :: st) (HP σ)) : ga_W t mc ms kc ks M P X pc lv (Vi i :: Vr q :: st) (HP σ) :=
  ga_daload hd (HP_get hq) h0 h1 k
theorem hg_lald {q n : Nat} {i : Int} (hd : decode (ga_b M) pc = .ok (.laload, 1)) (hq : SH[q]? = some (.inr (3, n))) (h0 : 0 ≤ i) (h1 : i < n) (k : ga_W t mc ms kc ks M P X (pc + 1) lv (Vl (σ.1 q i) :: st) (HP σ)) : ga_W t mc ms kc ks M P X pc lv (Vi i :: Vr q :: st) (HP σ) :=
  ga_laload hd (HP_get hq) h0 h1 k
theorem hg_iast {q n : Nat} {i : Int} {x : Int} (hd : decode (ga_b M) pc = .ok (.iastore, 1)) (hq : SH[q]? = some (.inr (0, n))) (h0 : 0 ≤ i) (h1 : i < n) (k : ga_W t mc ms kc ks M P X (pc + 1) lv st (HP (stI σ q (ga_up (σ.1 q) i x)))) : ga_W t mc ms kc ks M P X pc lv (Vi x :: Vi i :: Vr q :: st) (HP σ) :=
  ga_iastore hd (HP_get hq) h0 h1 (HP_st0 hq) k
theorem hg_zast {q n : Nat} {i : Int} {x : Int} (hd : decode (ga_b M) pc = .ok (.bastore, 1)) (hq : SH[q]? = some (.inr (1, n))) (h0 : 0 ≤ i) (h1 : i < n) (hb : x = 0 ∨ x = 1) (k : ga_W t mc ms kc ks M P X (pc + 1) lv st (HP (stI σ q (ga_up (σ.1 q) i x)))) : ga_W t mc ms kc ks M P X pc lv (Vi x :: Vi i :: Vr q :: st) (HP σ) :=
  ga_zastore hd (HP_get hq) h0 h1 hb (HP_st1 hq) k
theorem hg_dast {q n : Nat} {i : Int} {x : UInt64} (hd : decode (ga_b M) pc = .ok (.dastore, 1)) (hq : SH[q]? = some (.inr (2, n))) (h0 : 0 ≤ i) (h1 : i < n) (k : ga_W t mc ms kc ks M P X (pc + 1) lv st (HP (stD σ q (ga_up (σ.2 q) i x)))) : ga_W t mc ms kc ks M P X pc lv (Vd x :: Vi i :: Vr q :: st) (HP σ) :=
  ga_dastore hd (HP_get hq) h0 h1 (HP_st2 hq) k
theorem hg_last {q n : Nat} {i : Int} {x : Int} (hd : decode (ga_b M) pc = .ok (.lastore, 1)) (hq : SH[q]? = some (.inr (3, n))) (h0 : 0 ≤ i) (h1 : i < n) (k : ga_W t mc ms kc ks M P X (pc + 1) lv st (HP (stI σ q (ga_up (σ.1 q) i x)))) : ga_W t mc ms kc ks M P X pc lv (Vl x :: Vi i :: Vr q :: st) (HP σ) :=
  ga_lastore hd (HP_get hq) h0 h1 (HP_st3 hq) k
theorem hg_alen {q n : Nat} (hd : decode (ga_b M) pc = .ok (.arraylength, 1)) (hq : SH[q]? = some (.inr (0, n))) (hn : ga_inI (n : Int)) (k : ga_W t mc ms kc ks M P X (pc + 1) lv (Vi (n : Int) :: st) (HP σ)) : ga_W t mc ms kc ks M P X pc lv (Vr q :: st) (HP σ) :=
  ga_alen hd (HP_get hq) rfl hn k
theorem ga_eqh {h h2 : ga_H} (e : h = h2) (k : ga_W t mc ms kc ks M P X pc lv st h2) : ga_W t mc ms kc ks M P X pc lv st h := by rw [e]; exact k
theorem ga_eqs {st2 : List ga_V} {h : ga_H} (e : st = st2) (k : ga_W t mc ms kc ks M P X pc lv st2 h) : ga_W t mc ms kc ks M P X pc lv st h := by rw [e]; exact k
theorem HP_obj {q ci : Nat} {fl : List ga_FK} (h : SH[q]? = some (.inl (ci, fl))) : (HP σ)[q]? = some (.inl (ci, ga_fv σ q 0 fl)) := HP_get h
end HpRules
/-- the one end: this answer, this heap -/
abbrev gis (v : Option ga_V) (σ : ga_S) : ga_Po := fun v2 h2 => v2 = v ∧ h2 = HP σ
section HpCalls
variable {t mc ms kc ks : Nat} {M : ga_M0} {P : ga_Po} {X : ga_Px} {pc : Nat} {lv : List (Option ga_V)} {st st2 : List ga_V} {σ σ2 : ga_S} {h : ga_H}
variable {t' n : Nat} {M' : ga_M0} {as : List ga_V} {P' : ga_Po} {w : ga_V}
theorem hc_V {q ci idx : Nat} {fl : List ga_FK} (hM : ga_Mt t' 0 0 M' (Vr q :: as) (HP σ) (gis (some w) σ2) ga_nox) (hF : ga_MF M' n) (hhh : ga_hh M' = []) (hV : ga_MV M') (hlk : Cond.methodLink (ga_y M).cls idx (ga_y M') ∈ ga_big) (hd : decode (ga_b M) pc = .ok (.invokevirtual idx, 3)) (hst : st = as.reverse ++ Vr q :: st2) (hln : as.length = n) (ht : Nat.ble (t' + 1) t = true) (hq : SH[q]? = some (.inl (ci, fl))) (hci : (vwCl[ci]?).map (fun z => z.1) = some (ga_y M').cls) (hcat : Nat.ble (ga_cats st2) 8 = true) (hkc : Nat.ble kc mc = true) (hks : Nat.ble ks ms = true)
    (k : ga_W t mc ms kc ks M P X (pc + 3) lv (w :: st2) (HP σ2)) : ga_W t mc ms kc ks M P X pc lv st (HP σ) :=
  ga_callV hM hF hhh hV hlk hd hst hln (Nat.le_of_ble_eq_true ht) (HP_obj hq) hci (Nat.le_of_ble_eq_true hcat) (Nat.le_of_ble_eq_true hkc) (Nat.le_of_ble_eq_true hks) (fun v h2 hp => by
    obtain ⟨e1, e2⟩ := hp
    rw [e1, e2]
    exact k)
theorem hc_S {idx : Nat} (hM : ga_Mt t' 0 0 M' as (HP σ) (gis (some w) σ2) ga_nox) (hF : ga_MF M' n) (hhh : ga_hh M' = []) (hV : ga_MS M') (hlk : Cond.methodLink (ga_y M).cls idx (ga_y M') ∈ ga_big) (hd : decode (ga_b M) pc = .ok (.invokestatic idx, 3)) (hst : st = as.reverse ++ st2) (hln : as.length = n) (ht : Nat.ble (t' + 1) t = true) (hcat : Nat.ble (ga_cats st2) 8 = true) (hkc : Nat.ble kc mc = true) (hks : Nat.ble ks ms = true)
    (k : ga_W t mc ms kc ks M P X (pc + 3) lv (w :: st2) (HP σ2)) : ga_W t mc ms kc ks M P X pc lv st (HP σ) :=
  ga_callS hM hF hhh hV hlk hd hst hln (Nat.le_of_ble_eq_true ht) (Nat.le_of_ble_eq_true hcat) (Nat.le_of_ble_eq_true hkc) (Nat.le_of_ble_eq_true hks) (fun v h2 hp => by
    obtain ⟨e1, e2⟩ := hp
    rw [e1, e2]
    exact k)
theorem hc_Vv {q ci idx : Nat} {fl : List ga_FK} (hM : ga_Mt t' 0 0 M' (Vr q :: as) (HP σ) (gis none σ2) ga_nox) (hF : ga_MF M' n) (hhh : ga_hh M' = []) (hV : ga_MV M') (hlk : Cond.methodLink (ga_y M).cls idx (ga_y M') ∈ ga_big) (hd : decode (ga_b M) pc = .ok (.invokevirtual idx, 3)) (hst : st = as.reverse ++ Vr q :: st2) (hln : as.length = n) (ht : Nat.ble (t' + 1) t = true) (hq : SH[q]? = some (.inl (ci, fl))) (hci : (vwCl[ci]?).map (fun z => z.1) = some (ga_y M').cls) (hcat : Nat.ble (ga_cats st2) 8 = true) (hkc : Nat.ble kc mc = true) (hks : Nat.ble ks ms = true)
    (k : ga_W t mc ms kc ks M P X (pc + 3) lv (st2) (HP σ2)) : ga_W t mc ms kc ks M P X pc lv st (HP σ) :=
  ga_callV hM hF hhh hV hlk hd hst hln (Nat.le_of_ble_eq_true ht) (HP_obj hq) hci (Nat.le_of_ble_eq_true hcat) (Nat.le_of_ble_eq_true hkc) (Nat.le_of_ble_eq_true hks) (fun v h2 hp => by
    obtain ⟨e1, e2⟩ := hp
    rw [e1, e2]
    exact k)
theorem hc_Sv {idx : Nat} (hM : ga_Mt t' 0 0 M' as (HP σ) (gis none σ2) ga_nox) (hF : ga_MF M' n) (hhh : ga_hh M' = []) (hV : ga_MS M') (hlk : Cond.methodLink (ga_y M).cls idx (ga_y M') ∈ ga_big) (hd : decode (ga_b M) pc = .ok (.invokestatic idx, 3)) (hst : st = as.reverse ++ st2) (hln : as.length = n) (ht : Nat.ble (t' + 1) t = true) (hcat : Nat.ble (ga_cats st2) 8 = true) (hkc : Nat.ble kc mc = true) (hks : Nat.ble ks ms = true)
    (k : ga_W t mc ms kc ks M P X (pc + 3) lv (st2) (HP σ2)) : ga_W t mc ms kc ks M P X pc lv st (HP σ) :=
  ga_callS hM hF hhh hV hlk hd hst hln (Nat.le_of_ble_eq_true ht) (Nat.le_of_ble_eq_true hcat) (Nat.le_of_ble_eq_true hkc) (Nat.le_of_ble_eq_true hks) (fun v h2 hp => by
    obtain ⟨e1, e2⟩ := hp
    rw [e1, e2]
    exact k)
/-- .. with an end that says less -/
theorem hc_VP {q ci idx : Nat} {fl : List ga_FK} (hM : ga_Mt t' 0 0 M' (Vr q :: as) (HP σ) P' ga_nox) (hF : ga_MF M' n) (hhh : ga_hh M' = []) (hV : ga_MV M') (hlk : Cond.methodLink (ga_y M).cls idx (ga_y M') ∈ ga_big) (hd : decode (ga_b M) pc = .ok (.invokevirtual idx, 3)) (hst : st = as.reverse ++ Vr q :: st2) (hln : as.length = n) (ht : Nat.ble (t' + 1) t = true) (hq : SH[q]? = some (.inl (ci, fl))) (hci : (vwCl[ci]?).map (fun z => z.1) = some (ga_y M').cls) (hcat : Nat.ble (ga_cats st2) 8 = true) (hkc : Nat.ble kc mc = true) (hks : Nat.ble ks ms = true)
    (k : ∀ v h2, P' v h2 → ga_W t mc ms kc ks M P X (pc + 3) lv (v.toList ++ st2) h2) : ga_W t mc ms kc ks M P X pc lv st (HP σ) :=
  ga_callV hM hF hhh hV hlk hd hst hln (Nat.le_of_ble_eq_true ht) (HP_obj hq) hci (Nat.le_of_ble_eq_true hcat) (Nat.le_of_ble_eq_true hkc) (Nat.le_of_ble_eq_true hks) k
end HpCalls
