-- Partition: split
theorem smC_r {f cc : Int → Int} {K u : Int} : smC f cc K u u := ⟨rfl, fun _ _ => rfl⟩
theorem smC_s {f cc : Int → Int} {K u v : Int} (h : smC f cc K u v) : smC f cc K v u := ⟨h.1.symm, fun i hi => (h.2 i (by rw [h.1]; exact hi)).symm⟩
theorem smC_t {f cc : Int → Int} {K u v w : Int} (h : smC f cc K u v) (g : smC f cc K v w) : smC f cc K u w := ⟨h.1.trans g.1, fun i hi => (h.2 i hi).trans (g.2 i (by rw [← h.1]; exact hi))⟩
theorem prv_congr {oc oc2 : Int → Int} {c b x : Int} (h : ∀ p, 0 ≤ p → p < b → oc p = oc2 p) (g : prv oc c b x) : prv oc2 c b x := by
  refine ⟨?_, fun p h1 h2 h3 => ?_⟩
  · rcases g.1 with q | ⟨q1, q2, q3⟩
    · exact Or.inl q
    · exact Or.inr ⟨q1, q2, by rw [← h x q1 q2]; exact q3⟩
  · rw [← h p h2 h3]
    exact g.2 p h1 h2 h3
/-- t is the first of those like it -/
def isFst (old : Int → Int) (E : Int → Int → Prop) (t : Int) : Prop := old t ≠ -1 ∧ ∀ u : Int, 0 ≤ u → u < t → old u ≠ -1 → ¬ E u t
abbrev pEq (old : Int → Int) (E : Int → Int → Prop) : Prop := (∀ u, E u u) ∧ (∀ {u v}, E u v → E v u) ∧ (∀ {u v w}, E u v → E v w → E u w) ∧ (∀ {u v}, E u v → old u = old v)
theorem pEq.r {old : Int → Int} {E : Int → Int → Prop} (h : pEq old E) : ∀ u, E u u := h.1
theorem pEq.s {old : Int → Int} {E : Int → Int → Prop} (h : pEq old E) : ∀ {u v}, E u v → E v u := h.2.1
theorem pEq.t {old : Int → Int} {E : Int → Int → Prop} (h : pEq old E) : ∀ {u v w}, E u v → E v w → E u w := h.2.2.1
theorem pEq.o {old : Int → Int} {E : Int → Int → Prop} (h : pEq old E) : ∀ {u v}, E u v → old u = old v := h.2.2.2
theorem pEq_mk {old : Int → Int} {E : Int → Int → Prop} (r : ∀ u, E u u) (s : ∀ {u v}, E u v → E v u) (t : ∀ {u v w}, E u v → E v w → E u w) (o : ∀ {u v}, E u v → old u = old v) : pEq old E := ⟨r, s, t, o⟩
abbrev pIv (old : Int → Int) (E : Int → Int → Prop) (T : Int) (cl np pb ft : Int → Int) (t P : Nat) : Prop := (P ≤ t) ∧ (∀ u : Int, t ≤ u → u < T → cl u = old u) ∧ (∀ u : Int, 0 ≤ u → u < t → old u = -1 → cl u = -1) ∧ (∀ u : Int, 0 ≤ u → u < t → old u ≠ -1 → 0 ≤ cl u ∧ cl u < P) ∧ (∀ u v : Int, 0 ≤ u → u < t → 0 ≤ v → v < t → old u ≠ -1 → old v ≠ -1 → (cl u = cl v ↔ E u v)) ∧ (∀ q : Int, 0 ≤ q → q < P → 0 ≤ ft q ∧ ft q < t ∧ old (ft q) ≠ -1 ∧ cl (ft q) = q) ∧ (∀ c : Int, 0 ≤ c → c < T → prv (fun p => old (ft p)) c P (np c)) ∧ (∀ q : Int, 0 ≤ q → q < P → prv (fun p => old (ft p)) (old (ft q)) q (pb q)) ∧ ((P : Int) = sz (fun x => tv (isFst old E x)) t)
theorem pIv.le {old : Int → Int} {E : Int → Int → Prop} {T : Int} {cl np pb ft : Int → Int} {t P : Nat} (h : pIv old E T cl np pb ft t P) : P ≤ t := h.1
theorem pIv.rest {old : Int → Int} {E : Int → Int → Prop} {T : Int} {cl np pb ft : Int → Int} {t P : Nat} (h : pIv old E T cl np pb ft t P) : ∀ u : Int, t ≤ u → u < T → cl u = old u := h.2.1
theorem pIv.out {old : Int → Int} {E : Int → Int → Prop} {T : Int} {cl np pb ft : Int → Int} {t P : Nat} (h : pIv old E T cl np pb ft t P) : ∀ u : Int, 0 ≤ u → u < t → old u = -1 → cl u = -1 := h.2.2.1
theorem pIv.rng {old : Int → Int} {E : Int → Int → Prop} {T : Int} {cl np pb ft : Int → Int} {t P : Nat} (h : pIv old E T cl np pb ft t P) : ∀ u : Int, 0 ≤ u → u < t → old u ≠ -1 → 0 ≤ cl u ∧ cl u < P := h.2.2.2.1
theorem pIv.eqv {old : Int → Int} {E : Int → Int → Prop} {T : Int} {cl np pb ft : Int → Int} {t P : Nat} (h : pIv old E T cl np pb ft t P) : ∀ u v : Int, 0 ≤ u → u < t → 0 ≤ v → v < t → old u ≠ -1 → old v ≠ -1 → (cl u = cl v ↔ E u v) := h.2.2.2.2.1
theorem pIv.fst {old : Int → Int} {E : Int → Int → Prop} {T : Int} {cl np pb ft : Int → Int} {t P : Nat} (h : pIv old E T cl np pb ft t P) : ∀ q : Int, 0 ≤ q → q < P → 0 ≤ ft q ∧ ft q < t ∧ old (ft q) ≠ -1 ∧ cl (ft q) = q := h.2.2.2.2.2.1
theorem pIv.new {old : Int → Int} {E : Int → Int → Prop} {T : Int} {cl np pb ft : Int → Int} {t P : Nat} (h : pIv old E T cl np pb ft t P) : ∀ c : Int, 0 ≤ c → c < T → prv (fun p => old (ft p)) c P (np c) := h.2.2.2.2.2.2.1
theorem pIv.bef {old : Int → Int} {E : Int → Int → Prop} {T : Int} {cl np pb ft : Int → Int} {t P : Nat} (h : pIv old E T cl np pb ft t P) : ∀ q : Int, 0 ≤ q → q < P → prv (fun p => old (ft p)) (old (ft q)) q (pb q) := h.2.2.2.2.2.2.2.1
theorem pIv.cnt {old : Int → Int} {E : Int → Int → Prop} {T : Int} {cl np pb ft : Int → Int} {t P : Nat} (h : pIv old E T cl np pb ft t P) : (P : Int) = sz (fun x => tv (isFst old E x)) t := h.2.2.2.2.2.2.2.2
theorem pIv_mk {old : Int → Int} {E : Int → Int → Prop} {T : Int} {cl np pb ft : Int → Int} {t P : Nat} (le : P ≤ t) (rest : ∀ u : Int, t ≤ u → u < T → cl u = old u) (out : ∀ u : Int, 0 ≤ u → u < t → old u = -1 → cl u = -1) (rng : ∀ u : Int, 0 ≤ u → u < t → old u ≠ -1 → 0 ≤ cl u ∧ cl u < P) (eqv : ∀ u v : Int, 0 ≤ u → u < t → 0 ≤ v → v < t → old u ≠ -1 → old v ≠ -1 → (cl u = cl v ↔ E u v)) (fst : ∀ q : Int, 0 ≤ q → q < P → 0 ≤ ft q ∧ ft q < t ∧ old (ft q) ≠ -1 ∧ cl (ft q) = q) (new : ∀ c : Int, 0 ≤ c → c < T → prv (fun p => old (ft p)) c P (np c)) (bef : ∀ q : Int, 0 ≤ q → q < P → prv (fun p => old (ft p)) (old (ft q)) q (pb q)) (cnt : (P : Int) = sz (fun x => tv (isFst old E x)) t) : pIv old E T cl np pb ft t P := ⟨le, rest, out, rng, eqv, fst, new, bef, cnt⟩
theorem pIv_0 {old : Int → Int} {E : Int → Int → Prop} {T : Int} {cl np pb ft : Int → Int} (hc : ∀ u : Int, 0 ≤ u → u < T → cl u = old u) (hn : ∀ c : Int, 0 ≤ c → c < T → np c = -1) : pIv old E T cl np pb ft 0 0 := pIv_mk
  (le := Nat.le_refl _)
  (rest := fun u h1 h2 => hc u h1 h2)
  (out := fun u h1 h2 => absurd h2 (by omega))
  (rng := fun u h1 h2 => absurd h2 (by omega))
  (eqv := fun u v h1 h2 => absurd h2 (by omega))
  (fst := fun q h1 h2 => absurd h2 (by omega))
  (new := fun c h1 h2 => ⟨Or.inl (hn c h1 h2), fun p _ h4 h5 => absurd h5 (by omega)⟩)
  (bef := fun q h1 h2 => absurd h2 (by omega))
  (cnt := rfl)
section pIvs
variable {old : Int → Int} {E : Int → Int → Prop} {T : Int} {cl np pb ft : Int → Int} {t P : Nat}
theorem pIv_out (h : pIv old E T cl np pb ft t P) (hT : (t : Int) < T) (ho : old t = -1) : pIv old E T cl np pb ft (t + 1) P := pIv_mk
  (le := by have := h.le; omega)
  (rest := fun u h1 h2 => h.rest u (by omega) h2)
  (out := fun u h1 h2 h3 => by
    rcases Int.lt_or_le u t with q | q
    · exact h.out u h1 q h3
    · rw [show u = t by omega, h.rest t (by omega) hT, ho])
  (rng := fun u h1 h2 h3 => by
    rcases Int.lt_or_le u t with q | q
    · exact h.rng u h1 q h3
    · exact absurd (show u = t by omega) (fun z => h3 (by rw [z]; exact ho)))
  (eqv := fun u v h1 h2 h3 h4 h5 h6 => by
    have q : u < t := by
      rcases Int.lt_or_le u t with q | q
      · exact q
      · exact absurd (show u = t by omega) (fun z => h5 (by rw [z]; exact ho))
    have q2 : v < t := by
      rcases Int.lt_or_le v t with q | q
      · exact q
      · exact absurd (show v = t by omega) (fun z => h6 (by rw [z]; exact ho))
    exact h.eqv u v h1 q h3 q2 h5 h6)
  (fst := fun q h1 h2 => by have := h.fst q h1 h2; exact ⟨this.1, by omega, this.2.2⟩)
  (new := h.new)
  (bef := h.bef)
  (cnt := by rw [sz_s, ← h.cnt, tvz (fun z => z.1 ho), Int.add_zero])
theorem pIv_old (e : pEq old E) (h : pIv old E T cl np pb ft t P) (ho : old t ≠ -1) {r : Int} (h1 : 0 ≤ r) (h2 : r < P) (hE : E t (ft r)) : pIv old E T (ga_up cl t r) np pb ft (t + 1) P := by
  have hr := h.fst r h1 h2
  have hE2 : ∀ u : Int, 0 ≤ u → u < t → old u ≠ -1 → (cl u = r ↔ E u t) := fun u a b c => by
    have := h.eqv u (ft r) a b hr.1 hr.2.1 c hr.2.2.1
    rw [hr.2.2.2] at this
    exact this.trans ⟨fun z => e.t z (e.s hE), fun z => e.t z hE⟩
  refine ⟨by have := h.le; omega, fun u a b => ?_, fun u a b c => ?_, fun u a b c => ?_, fun u v a b c d f g => ?_, fun q a b => ?_, h.new, h.bef, ?_⟩
  · rw [ga_up_ne _ _ (by omega)]; exact h.rest u (by omega) b
  · have q : u ≠ t := fun z => ho (by rw [← z]; exact c)
    rw [ga_up_ne _ _ q]; exact h.out u a (by omega) c
  · by_cases q : u = t
    · rw [q, ga_up_at]; exact ⟨h1, h2⟩
    · rw [ga_up_ne _ _ q]; exact h.rng u a (by omega) c
  · by_cases q : u = t
    · by_cases q2 : v = t
      · rw [q, q2]; exact ⟨fun _ => e.r _, fun _ => rfl⟩
      · rw [q, ga_up_at, ga_up_ne _ _ q2]
        exact ⟨fun z => e.s ((hE2 v c (by omega) g).mp z.symm), fun z => ((hE2 v c (by omega) g).mpr (e.s z)).symm⟩
    · by_cases q2 : v = t
      · rw [q2, ga_up_at, ga_up_ne _ _ q]
        exact hE2 u a (by omega) f
      · rw [ga_up_ne _ _ q, ga_up_ne _ _ q2]
        exact h.eqv u v a (by omega) c (by omega) f g
  · have := h.fst q a b
    rw [ga_up_ne _ _ (by omega)]
    exact ⟨this.1, by omega, this.2.2⟩
  · rw [sz_s, ← h.cnt, tvz (fun z => z.2 (ft r) hr.1 hr.2.1 hr.2.2.1 (e.s hE)), Int.add_zero]
theorem pIv_new (e : pEq old E) (h : pIv old E T cl np pb ft t P) (hT : (t : Int) < T) (ho : 0 ≤ old t ∧ old t < T) (hE : ∀ q : Int, 0 ≤ q → q < P → old (ft q) = old t → ¬ E t (ft q)) : pIv old E T (ga_up cl t P) (ga_up np (old t) P) (ga_up pb P (np (old t))) (ga_up ft P t) (t + 1) (P + 1) := by
  have hE2 : ∀ u : Int, 0 ≤ u → u < t → old u ≠ -1 → ¬ E u t := fun u a b c hh => by
    have r := h.rng u a b c
    have f := h.fst (cl u) r.1 r.2
    have e1 : E u (ft (cl u)) := (h.eqv u (ft (cl u)) a b f.1 f.2.1 c f.2.2.1).mp f.2.2.2.symm
    have e2 := e.t (e.s hh) e1
    exact hE (cl u) r.1 r.2 (e.o e2).symm e2
  have hft : ∀ p : Int, p < P → ga_up ft (P : Int) (t : Int) p = ft p := fun p hp => ga_up_ne _ _ (by omega)
  refine ⟨by have := h.le; omega, fun u a b => ?_, fun u a b c => ?_, fun u a b c => ?_, fun u v a b c d f g => ?_, fun q a b => ?_, fun c a b => ?_, fun q a b => ?_, ?_⟩
  · rw [ga_up_ne _ _ (by omega)]; exact h.rest u (by omega) b
  · have q : u ≠ t := fun z => by rw [z] at c; omega
    rw [ga_up_ne _ _ q]; exact h.out u a (by omega) c
  · by_cases q : u = t
    · rw [q, ga_up_at]; omega
    · rw [ga_up_ne _ _ q]; have := h.rng u a (by omega) c; omega
  · by_cases q : u = t
    · by_cases q2 : v = t
      · rw [q, q2]; exact ⟨fun _ => e.r _, fun _ => rfl⟩
      · rw [q, ga_up_at, ga_up_ne _ _ q2]
        have := h.rng v c (by omega) g
        exact ⟨fun z => by omega, fun z => absurd (e.s z) (hE2 v c (by omega) g)⟩
    · by_cases q2 : v = t
      · rw [q2, ga_up_at, ga_up_ne _ _ q]
        have := h.rng u a (by omega) f
        exact ⟨fun z => by omega, fun z => absurd z (hE2 u a (by omega) f)⟩
      · rw [ga_up_ne _ _ q, ga_up_ne _ _ q2]
        exact h.eqv u v a (by omega) c (by omega) f g
  · by_cases q2 : q = P
    · rw [q2, ga_up_at, ga_up_at]
      exact ⟨by omega, by omega, by omega, rfl⟩
    · have := h.fst q a (by omega)
      rw [ga_up_ne _ _ q2, ga_up_ne _ _ (by omega)]
      exact ⟨this.1, by omega, this.2.2⟩
  · by_cases q : c = old t
    · rw [q, ga_up_at]
      refine ⟨Or.inr ⟨by omega, by omega, ?_⟩, fun p h3 h4 h5 => by omega⟩
      show old (ga_up ft _ _ _) = _
      rw [ga_up_at]
    · rw [ga_up_ne _ _ q]
      have w := h.new c a b
      refine ⟨?_, fun p h3 h4 h5 => ?_⟩
      · rcases w.1 with z | ⟨z1, z2, z3⟩
        · exact Or.inl z
        · refine Or.inr ⟨z1, by omega, ?_⟩
          show old (ga_up ft _ _ _) = _
          rw [hft _ z2]
          exact z3
      · show old (ga_up ft _ _ _) ≠ _
        by_cases q3 : p = P
        · rw [q3, ga_up_at]
          exact fun z => q z.symm
        · rw [hft _ (by omega)]
          exact w.2 p h3 h4 (by omega)
  · by_cases q2 : q = P
    · rw [q2, ga_up_at, ga_up_at]
      refine prv_congr (fun p h3 h4 => ?_) (h.new (old t) ho.1 ho.2)
      show old (ft p) = old (ga_up ft _ _ p)
      rw [hft _ h4]
    · rw [ga_up_ne ft _ q2, ga_up_ne pb _ q2]
      refine prv_congr (fun p h3 h4 => ?_) (h.bef q a (by omega))
      show old (ft p) = old (ga_up ft _ _ p)
      rw [hft _ (by omega)]
  · rw [sz_s, ← h.cnt, tv1 ⟨by omega, hE2⟩]
    omega
end pIvs
def sE (old f cc : Int → Int) (K u v : Int) : Prop := old u = old v ∧ smC f cc K u v
theorem sE_q {old f cc : Int → Int} {K : Int} : pEq old (sE old f cc K) := ⟨fun _ => ⟨rfl, smC_r⟩, fun h => ⟨h.1.symm, smC_s h.2⟩, fun h g => ⟨h.1.trans g.1, smC_t h.2 g.2⟩, fun h => h.1⟩
/-- what split says -/
abbrev spl (old : Int → Int) (E : Int → Int → Prop) (T : Int) (cl : Int → Int) (P : Int) : Prop := (∀ u : Int, 0 ≤ u → u < T → old u = -1 → cl u = -1) ∧ (∀ u : Int, 0 ≤ u → u < T → old u ≠ -1 → 0 ≤ cl u ∧ cl u < P) ∧ (∀ u v : Int, 0 ≤ u → u < T → 0 ≤ v → v < T → old u ≠ -1 → old v ≠ -1 → (cl u = cl v ↔ E u v)) ∧ (P = sz (fun x => tv (isFst old E x)) T.toNat) ∧ (P ≤ T)
theorem spl.out {old : Int → Int} {E : Int → Int → Prop} {T : Int} {cl : Int → Int} {P : Int} (h : spl old E T cl P) : ∀ u : Int, 0 ≤ u → u < T → old u = -1 → cl u = -1 := h.1
theorem spl.rng {old : Int → Int} {E : Int → Int → Prop} {T : Int} {cl : Int → Int} {P : Int} (h : spl old E T cl P) : ∀ u : Int, 0 ≤ u → u < T → old u ≠ -1 → 0 ≤ cl u ∧ cl u < P := h.2.1
theorem spl.eqv {old : Int → Int} {E : Int → Int → Prop} {T : Int} {cl : Int → Int} {P : Int} (h : spl old E T cl P) : ∀ u v : Int, 0 ≤ u → u < T → 0 ≤ v → v < T → old u ≠ -1 → old v ≠ -1 → (cl u = cl v ↔ E u v) := h.2.2.1
theorem spl.cnt {old : Int → Int} {E : Int → Int → Prop} {T : Int} {cl : Int → Int} {P : Int} (h : spl old E T cl P) : P = sz (fun x => tv (isFst old E x)) T.toNat := h.2.2.2.1
theorem spl.le {old : Int → Int} {E : Int → Int → Prop} {T : Int} {cl : Int → Int} {P : Int} (h : spl old E T cl P) : P ≤ T := h.2.2.2.2
theorem spl_mk {old : Int → Int} {E : Int → Int → Prop} {T : Int} {cl : Int → Int} {P : Int} (out : ∀ u : Int, 0 ≤ u → u < T → old u = -1 → cl u = -1) (rng : ∀ u : Int, 0 ≤ u → u < T → old u ≠ -1 → 0 ≤ cl u ∧ cl u < P) (eqv : ∀ u v : Int, 0 ≤ u → u < T → 0 ≤ v → v < T → old u ≠ -1 → old v ≠ -1 → (cl u = cl v ↔ E u v)) (cnt : P = sz (fun x => tv (isFst old E x)) T.toNat) (le : P ≤ T) : spl old E T cl P := ⟨out, rng, eqv, cnt, le⟩
theorem T_X7_partLike_22 (x w c : Int) (τ : ga_S) (m P : Nat) (oc : Int → Int) (h1 : 0 ≤ x) (h2 : x < 60) (hm : τ.1 25 x = m) (hm2 : m ≤ 4) (hP : P ≤ 60) (hw : prv oc c P w) (hq : ∀ q : Int, 0 ≤ q → q < P → 0 ≤ τ.1 28 q ∧ τ.1 28 q < 60 ∧ prv oc (oc q) q (τ.1 27 q)) : ga_Mt 1 0 0 mX7_partLike [Vr 22, Vi x, Vi w] (HP τ) (fun v h => h = HP τ ∧ ∃ r : Int, v = some (Vi r) ∧ ((r = -1 ∧ ∀ q : Int, 0 ≤ q → q < P → oc q = c → ¬ smC (τ.1 24) (τ.1 25) 4 x (τ.1 28 q)) ∨ (0 ≤ r ∧ r < P ∧ oc r = c ∧ smC (τ.1 24) (τ.1 25) 4 x (τ.1 28 r)))) ga_nox := by
  refine ga_meth [some (Vr 22), some (Vi x), some (Vi w), none, none] rfl rfl (by decide +kernel) (Nat.le_of_ble_eq_true rfl) rfl ?_
  refine ga_iload_n dX7_partLike_0 rfl ?_
  refine ga_istore_n (lv2 := [_, _, _, _, _]) dX7_partLike_1 (by decide) rfl rfl ?_
  refine ga_iconst dX7_partLike_2 ⟨by decide, by decide⟩ ?_
  refine ga_istore (lv2 := [_, _, _, _, _]) dX7_partLike_3 (by decide) rfl rfl ?_
  refine (ga_loop 60 (fun i => ∀ (r : Int) (b : Nat), b ≤ P → b + i ≤ 60 → prv oc c b r → (∀ q : Int, b ≤ q → q < P → oc q = c → ¬ smC (τ.1 24) (τ.1 25) 4 x (τ.1 28 q)) → ga_W 1 0 0 0 0 mX7_partLike (fun v h => h = HP τ ∧ ∃ r : Int, v = some (Vi r) ∧ ((r = -1 ∧ ∀ q : Int, 0 ≤ q → q < P → oc q = c → ¬ smC (τ.1 24) (τ.1 25) 4 x (τ.1 28 q)) ∨ (0 ≤ r ∧ r < P ∧ oc r = c ∧ smC (τ.1 24) (τ.1 25) 4 x (τ.1 28 r)))) ga_nox 5 [some (Vr 22), some (Vi x), some (Vi w), some (Vi r), some (Vi (i : Int))] [] (HP τ)) ?_ ?_ 0 (Nat.zero_le _) w P (Nat.le_refl _) (by omega) hw (fun q a b => absurd b (by omega)) : _)
  · intro r b hb hb2 hp hall
    refine ga_iload dX7_partLike_5 rfl ?_
    refine ga_aload_n dX7_partLike_7 rfl ?_
    refine hg_getC grX7_15 dX7_partLike_8 rfl rfl ?_
    refine ga_icmp_ge (tgt := 48) dX7_partLike_11 rfl (fun c_11 => ?_) (fun c_11 => ?_)
    · refine ga_iconst dX7_partLike_48 ⟨by decide, by decide⟩ ?_
      refine ga_ret (v := some _) ?_ rfl (by decide) (by decide) ⟨dX7_partLike_49, _, rfl, rfl⟩
      exact ⟨rfl, -1, rfl, Or.inl ⟨rfl, fun q a d => hall q (by omega) d⟩⟩
    · omega
  · intro i hi k r b hb hb2 hp hall
    refine ga_iload dX7_partLike_5 rfl ?_
    refine ga_aload_n dX7_partLike_7 rfl ?_
    refine hg_getC grX7_15 dX7_partLike_8 rfl rfl ?_
    refine ga_icmp_ge (tgt := 48) dX7_partLike_11 rfl (fun c_11 => ?_) (fun c_11 => ?_)
    · omega
    · refine ga_iload_n dX7_partLike_14 rfl ?_
      refine ga_iconst dX7_partLike_15 ⟨by decide, by decide⟩ ?_
      refine ga_icmp_eq (tgt := 48) dX7_partLike_16 rfl (fun c_16 => ?_) (fun c_16 => ?_)
      · have c9 : r = -1 := c_16
        refine ga_iconst dX7_partLike_48 ⟨by decide, by decide⟩ ?_
        refine ga_ret (v := some _) ?_ rfl (by decide) (by decide) ⟨dX7_partLike_49, _, rfl, rfl⟩
        refine ⟨rfl, -1, rfl, Or.inl ⟨rfl, fun q a d g => ?_⟩⟩
        rcases Int.lt_or_le q b with z | z
        · exact absurd g (hp.2 q (by omega) a z)
        · exact hall q z d g
      · have c9 : ¬ r = -1 := c_16
        obtain ⟨r1, r2, r3⟩ : 0 ≤ r ∧ r < b ∧ oc r = c := hp.1.resolve_left c9
        have hr := hq r r1 (by omega)
        refine ga_aload_n dX7_partLike_19 rfl ?_
        refine ga_iload_n dX7_partLike_20 rfl ?_
        refine ga_aload_n dX7_partLike_21 rfl ?_
        refine hg_getR grX7_37 dX7_partLike_22 rfl rfl ?_
        refine ga_iload_n dX7_partLike_25 rfl ?_
        refine hg_iald dX7_partLike_26 rfl (by omega) (by omega) ?_
        refine hc_V (T_X7_haveSameCodes_22 x _ τ m h1 h2 hr.1 hr.2.1 hm hm2) fX7_haveSameCodes rfl kX7_haveSameCodes lkX7_57 dX7_partLike_27 rfl rfl rfl rfl rfl rfl rfl rfl ?_
        refine ga_if_eq (tgt := 35) dX7_partLike_30 rfl (fun c_30 => ?_) (fun c_30 => ?_)
        · rw [tv_eq0] at c_30
          refine ga_aload_n dX7_partLike_35 rfl ?_
          refine hg_getR grX7_34 dX7_partLike_36 rfl rfl ?_
          refine ga_iload_n dX7_partLike_39 rfl ?_
          refine hg_iald dX7_partLike_40 rfl (by omega) (by omega) ?_
          refine ga_istore_n (lv2 := [_, _, _, _, _]) dX7_partLike_41 (by decide) rfl rfl ?_
          refine ga_iinc (z := ((i + 1 : Nat) : Int)) (lv2 := [_, _, _, _, _]) dX7_partLike_42 (by decide) rfl rfl (by omega) (⟨by omega, by omega⟩) rfl ?_
          refine ga_goto (tgt := 5) dX7_partLike_45 rfl ?_
          have hr3 := hr.2.2
          rw [r3] at hr3
          refine k _ r.toNat (by omega) (by omega) (by rw [Int.toNat_of_nonneg r1]; exact hr3) (fun q a d g => ?_)
          rcases Int.lt_or_le q b with z | z
          · rcases Int.lt_or_le r q with z2 | z2
            · exact absurd g (hp.2 q z2 (by omega) z)
            · rw [show q = r by omega]
              exact c_30
          · exact hall q z d g
        · rw [tv_ne0] at c_30
          refine ga_iload_n dX7_partLike_33 rfl ?_
          refine ga_ret (v := some _) ?_ rfl (by decide) (by decide) ⟨dX7_partLike_34, _, rfl, rfl⟩
          exact ⟨rfl, r, rfl, Or.inr ⟨r1, by omega, r3, c_30⟩⟩
theorem T_X7_split_22 (σ : ga_S) (h0 : ∀ u : Int, 0 ≤ u → u < 60 → -1 ≤ σ.1 23 u ∧ σ.1 23 u < 60) (hcc : ∀ u : Int, 0 ≤ u → u < 60 → 0 ≤ σ.1 25 u ∧ σ.1 25 u ≤ 4) : ga_Mt 2 0 0 mX7_split [Vr 22] (HP σ) (fun v h => ∃ (τ : ga_S) (P : Nat), exc [22, 23, 26, 27, 28] σ τ ∧ τ.1 22 2 = P ∧ v = some (Vi (tv (σ.1 22 2 < P))) ∧ h = HP τ ∧ spl (σ.1 23) (sE (σ.1 23) (σ.1 24) (σ.1 25) 4) 60 (τ.1 23) P) ga_nox := by
  refine ga_meth [some (Vr 22), none, none, none, none] rfl rfl (by decide +kernel) (Nat.le_of_ble_eq_true rfl) rfl ?_
  refine ga_aload_n dX7_split_0 rfl ?_
  refine hg_getR grX7_31 dX7_split_1 rfl rfl ?_
  refine ga_iconst dX7_split_4 ⟨by decide, by decide⟩ ?_
  refine hc_Sv (T_J7_fill rfl (by decide)) fJ7_fill_53178 rfl kJ7_fill_53178 lkX7_40 dX7_split_5 rfl rfl rfl rfl rfl rfl ?_
  refine ga_iconst dX7_split_8 ⟨by decide, by decide⟩ ?_
  refine ga_istore_n (lv2 := [_, _, _, _, _]) dX7_split_9 (by decide) rfl rfl ?_
  refine ga_iconst dX7_split_10 ⟨by decide, by decide⟩ ?_
  refine ga_istore_n (lv2 := [_, _, _, _, _]) dX7_split_11 (by decide) rfl rfl ?_
  refine (ga_loop 60 (fun t => ∀ (τ : ga_S) (P : Nat) y z, exc [23, 26, 27, 28] σ τ → pIv (σ.1 23) (sE (σ.1 23) (σ.1 24) (σ.1 25) 4) 60 (τ.1 23) (τ.1 26) (τ.1 27) (τ.1 28) t P → ga_W 2 0 0 0 0 mX7_split (fun v h => ∃ (τ : ga_S) (P : Nat), exc [22, 23, 26, 27, 28] σ τ ∧ τ.1 22 2 = P ∧ v = some (Vi (tv (σ.1 22 2 < P))) ∧ h = HP τ ∧ spl (σ.1 23) (sE (σ.1 23) (σ.1 24) (σ.1 25) 4) 60 (τ.1 23) P) ga_nox 12 [some (Vr 22), some (Vi (P : Int)), some (Vi (t : Int)), y, z] [] (HP τ)) ?_ ?_ 0 (Nat.zero_le _) (stI σ 26 (fillF (σ.1 26) ((60 : Nat) : Int) (-1))) 0 none none (exc_st exc_r (by decide)) (pIv_0 (fun _ _ _ => rfl) (fun c h1 h2 => fillF_in ⟨h1, by omega⟩)) : _)
  · intro τ P y z hx hi
    have hc2 : τ.1 22 2 = σ.1 22 2 := congrFun (hx.1 22 (by decide)) 2
    have E : ∃ (τ2 : ga_S) (P2 : Nat), exc [22, 23, 26, 27, 28] σ τ2 ∧ τ2.1 22 2 = P2 ∧ some (Vi (tv (σ.1 22 2 < P))) = some (Vi (tv (σ.1 22 2 < P2))) ∧ HP (stI τ 22 (ga_up (τ.1 22) 2 (P : Int))) = HP τ2 ∧ spl (σ.1 23) (sE (σ.1 23) (σ.1 24) (σ.1 25) 4) 60 (τ2.1 23) P2 :=
      ⟨stI τ 22 (ga_up (τ.1 22) 2 (P : Int)), P, exc_st (exc_m hx (by decide)) (by decide), rfl, rfl, rfl, ⟨hi.out, hi.rng, hi.eqv, hi.cnt, by have := hi.le; omega⟩⟩
    refine ga_iload_n dX7_split_12 rfl ?_
    refine ga_aload_n dX7_split_13 rfl ?_
    refine hg_getC grX7_15 dX7_split_14 rfl rfl ?_
    refine ga_icmp_ge (tgt := 103) dX7_split_17 rfl (fun c_17 => ?_) (fun c_17 => ?_)
    · refine ga_iload_n dX7_split_103 rfl ?_
      refine ga_aload_n dX7_split_104 rfl ?_
      refine hg_getI 2 grX7_9 dX7_split_105 rfl rfl rfl ?_
      refine ga_icmp_le (tgt := 115) dX7_split_108 rfl (fun c_108 => ?_) (fun c_108 => ?_)
      · rw [hc2] at c_108
        rw [tvz (show ¬ σ.1 22 2 < P by omega)] at E
        refine ga_iconst dX7_split_115 ⟨by decide, by decide⟩ ?_
        refine ga_istore_n (lv2 := [_, _, _, _, _]) dX7_split_116 (by decide) rfl rfl ?_
        refine ga_aload_n dX7_split_117 rfl ?_
        refine ga_iload_n dX7_split_118 rfl ?_
        refine hg_putI 2 gfX7_9 dX7_split_119 rfl rfl rfl ?_
        refine ga_iload_n dX7_split_122 rfl ?_
        refine ga_ret (v := some _) ?_ rfl (by decide) (by decide) ⟨dX7_split_123, _, rfl, rfl⟩
        exact E
      · rw [hc2] at c_108
        rw [tv1 (show σ.1 22 2 < P by omega)] at E
        refine ga_iconst dX7_split_111 ⟨by decide, by decide⟩ ?_
        refine ga_goto (tgt := 116) dX7_split_112 rfl ?_
        refine ga_istore_n (lv2 := [_, _, _, _, _]) dX7_split_116 (by decide) rfl rfl ?_
        refine ga_aload_n dX7_split_117 rfl ?_
        refine ga_iload_n dX7_split_118 rfl ?_
        refine hg_putI 2 gfX7_9 dX7_split_119 rfl rfl rfl ?_
        refine ga_iload_n dX7_split_122 rfl ?_
        refine ga_ret (v := some _) ?_ rfl (by decide) (by decide) ⟨dX7_split_123, _, rfl, rfl⟩
        exact E
    · omega
  · intro t ht k τ P y z hx hi
    have hle := hi.le
    have e1 : τ.1 23 (t : Int) = σ.1 23 (t : Int) := hi.rest t (by omega) (by omega)
    have e2 : τ.1 24 = σ.1 24 := hx.1 24 (by decide)
    have e3 : τ.1 25 = σ.1 25 := hx.1 25 (by decide)
    refine ga_iload_n dX7_split_12 rfl ?_
    refine ga_aload_n dX7_split_13 rfl ?_
    refine hg_getC grX7_15 dX7_split_14 rfl rfl ?_
    refine ga_icmp_ge (tgt := 103) dX7_split_17 rfl (fun c_17 => ?_) (fun c_17 => ?_)
    · omega
    · refine ga_aload_n dX7_split_20 rfl ?_
      refine hg_getR grX7_21 dX7_split_21 rfl rfl ?_
      refine ga_iload_n dX7_split_24 rfl ?_
      refine hg_iald dX7_split_25 rfl (by omega) (by omega) ?_
      rw [e1]
      refine ga_istore_n (lv2 := [_, _, _, _, _]) dX7_split_26 (by decide) rfl rfl ?_
      refine ga_iload_n dX7_split_27 rfl ?_
      refine ga_iconst dX7_split_28 ⟨by decide, by decide⟩ ?_
      refine ga_icmp_ne (tgt := 35) dX7_split_29 rfl (fun c_29 => ?_) (fun c_29 => ?_)
      · have c9 : ¬ σ.1 23 (t : Int) = -1 := c_29
        have ho := h0 t (by omega) (by omega)
        have hcx := hcc t (by omega) (by omega)
        refine ga_aload_n dX7_split_35 rfl ?_
        refine ga_iload_n dX7_split_36 rfl ?_
        refine ga_aload_n dX7_split_37 rfl ?_
        refine hg_getR grX7_31 dX7_split_38 rfl rfl ?_
        refine ga_iload_n dX7_split_41 rfl ?_
        refine hg_iald dX7_split_42 rfl (by omega) (by omega) ?_
        refine hc_VP (T_X7_partLike_22 t _ (σ.1 23 t) τ (σ.1 25 t).toNat P (fun p => σ.1 23 (τ.1 28 p)) (by omega) (by omega) (by rw [e3]; omega) (by omega) (by omega) (hi.new _ (by omega) (by omega)) (fun q a b => ⟨(hi.fst q a b).1, by have := (hi.fst q a b).2.1; omega, hi.bef q a b⟩)) fX7_partLike rfl kX7_partLike lkX7_53 dX7_split_43 rfl rfl rfl rfl rfl rfl rfl rfl ?_
        rintro v h ⟨q1, r, q2, q3⟩
        rw [q1, q2]
        rw [e2, e3] at q3
        refine ga_istore (lv2 := [_, _, _, _, _]) dX7_split_46 (by decide) rfl rfl ?_
        refine ga_iload dX7_split_48 rfl ?_
        refine ga_iconst dX7_split_50 ⟨by decide, by decide⟩ ?_
        refine ga_icmp_ne (tgt := 89) dX7_split_51 rfl (fun c_51 => ?_) (fun c_51 => ?_)
        · have c8 : ¬ r = -1 := c_51
          obtain ⟨r1, r2, r3, r4⟩ := q3.resolve_left (fun z => c8 z.1)
          refine ga_aload_n dX7_split_89 rfl ?_
          refine hg_getR grX7_21 dX7_split_90 rfl rfl ?_
          refine ga_iload_n dX7_split_93 rfl ?_
          refine ga_iload dX7_split_94 rfl ?_
          refine hg_iast dX7_split_96 rfl (by omega) (by omega) ?_
          refine ga_iinc (z := ((t + 1 : Nat) : Int)) (lv2 := [_, _, _, _, _]) dX7_split_97 (by decide) rfl rfl (by omega) (⟨by omega, by omega⟩) rfl ?_
          refine ga_goto (tgt := 12) dX7_split_100 rfl ?_
          exact k _ P _ _ (exc_st hx (by decide)) (pIv_old sE_q hi c9 r1 r2 ⟨r3.symm, r4⟩)
        · have c8 : r = -1 := c_51
          have q4 := (q3.resolve_right (fun z => by omega)).2
          refine ga_iload_n dX7_split_54 rfl ?_
          refine ga_istore (lv2 := [_, _, _, _, _]) dX7_split_55 (by decide) rfl rfl ?_
          refine ga_aload_n dX7_split_57 rfl ?_
          refine hg_getR grX7_37 dX7_split_58 rfl rfl ?_
          refine ga_iload dX7_split_61 rfl ?_
          refine ga_iload_n dX7_split_63 rfl ?_
          refine hg_iast dX7_split_64 rfl (by omega) (by omega) ?_
          refine ga_aload_n dX7_split_65 rfl ?_
          refine hg_getR grX7_34 dX7_split_66 rfl rfl ?_
          refine ga_iload dX7_split_69 rfl ?_
          refine ga_aload_n dX7_split_71 rfl ?_
          refine hg_getR grX7_31 dX7_split_72 rfl rfl ?_
          refine ga_iload_n dX7_split_75 rfl ?_
          refine hg_iald dX7_split_76 rfl (by omega) (by omega) ?_
          refine hg_iast dX7_split_77 rfl (by omega) (by omega) ?_
          refine ga_aload_n dX7_split_78 rfl ?_
          refine hg_getR grX7_31 dX7_split_79 rfl rfl ?_
          refine ga_iload_n dX7_split_82 rfl ?_
          refine ga_iload dX7_split_83 rfl ?_
          refine hg_iast dX7_split_85 rfl (by omega) (by omega) ?_
          refine ga_iinc (z := ((P + 1 : Nat) : Int)) (lv2 := [_, _, _, _, _]) dX7_split_86 (by decide) rfl rfl (by omega) (⟨by omega, by omega⟩) rfl ?_
          refine ga_aload_n dX7_split_89 rfl ?_
          refine hg_getR grX7_21 dX7_split_90 rfl rfl ?_
          refine ga_iload_n dX7_split_93 rfl ?_
          refine ga_iload dX7_split_94 rfl ?_
          refine hg_iast dX7_split_96 rfl (by omega) (by omega) ?_
          refine ga_iinc (z := ((t + 1 : Nat) : Int)) (lv2 := [_, _, _, _, _]) dX7_split_97 (by decide) rfl rfl (by omega) (⟨by omega, by omega⟩) rfl ?_
          refine ga_goto (tgt := 12) dX7_split_100 rfl ?_
          exact k _ (P + 1) _ _ (exc_st (exc_st (exc_st (exc_st hx (by decide)) (by decide)) (by decide)) (by decide)) (pIv_new sE_q hi (by omega) ⟨by omega, by omega⟩ (fun q a b d z => q4 q a b d z.2))
      · have c9 : σ.1 23 (t : Int) = -1 := c_29
        refine ga_goto (tgt := 97) dX7_split_32 rfl ?_
        refine ga_iinc (z := ((t + 1 : Nat) : Int)) (lv2 := [_, _, _, _, _]) dX7_split_97 (by decide) rfl rfl (by omega) (⟨by omega, by omega⟩) rfl ?_
        refine ga_goto (tgt := 12) dX7_split_100 rfl ?_
        exact k _ P _ _ hx (pIv_out hi (by omega) c9)
theorem T_X7_partLike_29 (x w c : Int) (τ : ga_S) (m P : Nat) (oc : Int → Int) (h1 : 0 ≤ x) (h2 : x < 80) (hm : τ.1 32 x = m) (hm2 : m ≤ 120) (hP : P ≤ 80) (hw : prv oc c P w) (hq : ∀ q : Int, 0 ≤ q → q < P → 0 ≤ τ.1 35 q ∧ τ.1 35 q < 80 ∧ prv oc (oc q) q (τ.1 34 q)) : ga_Mt 1 0 0 mX7_partLike [Vr 29, Vi x, Vi w] (HP τ) (fun v h => h = HP τ ∧ ∃ r : Int, v = some (Vi r) ∧ ((r = -1 ∧ ∀ q : Int, 0 ≤ q → q < P → oc q = c → ¬ smC (τ.1 31) (τ.1 32) 120 x (τ.1 35 q)) ∨ (0 ≤ r ∧ r < P ∧ oc r = c ∧ smC (τ.1 31) (τ.1 32) 120 x (τ.1 35 r)))) ga_nox := by
  refine ga_meth [some (Vr 29), some (Vi x), some (Vi w), none, none] rfl rfl (by decide +kernel) (Nat.le_of_ble_eq_true rfl) rfl ?_
  refine ga_iload_n dX7_partLike_0 rfl ?_
  refine ga_istore_n (lv2 := [_, _, _, _, _]) dX7_partLike_1 (by decide) rfl rfl ?_
  refine ga_iconst dX7_partLike_2 ⟨by decide, by decide⟩ ?_
  refine ga_istore (lv2 := [_, _, _, _, _]) dX7_partLike_3 (by decide) rfl rfl ?_
  refine (ga_loop 80 (fun i => ∀ (r : Int) (b : Nat), b ≤ P → b + i ≤ 80 → prv oc c b r → (∀ q : Int, b ≤ q → q < P → oc q = c → ¬ smC (τ.1 31) (τ.1 32) 120 x (τ.1 35 q)) → ga_W 1 0 0 0 0 mX7_partLike (fun v h => h = HP τ ∧ ∃ r : Int, v = some (Vi r) ∧ ((r = -1 ∧ ∀ q : Int, 0 ≤ q → q < P → oc q = c → ¬ smC (τ.1 31) (τ.1 32) 120 x (τ.1 35 q)) ∨ (0 ≤ r ∧ r < P ∧ oc r = c ∧ smC (τ.1 31) (τ.1 32) 120 x (τ.1 35 r)))) ga_nox 5 [some (Vr 29), some (Vi x), some (Vi w), some (Vi r), some (Vi (i : Int))] [] (HP τ)) ?_ ?_ 0 (Nat.zero_le _) w P (Nat.le_refl _) (by omega) hw (fun q a b => absurd b (by omega)) : _)
  · intro r b hb hb2 hp hall
    refine ga_iload dX7_partLike_5 rfl ?_
    refine ga_aload_n dX7_partLike_7 rfl ?_
    refine hg_getC grX7_15 dX7_partLike_8 rfl rfl ?_
    refine ga_icmp_ge (tgt := 48) dX7_partLike_11 rfl (fun c_11 => ?_) (fun c_11 => ?_)
    · refine ga_iconst dX7_partLike_48 ⟨by decide, by decide⟩ ?_
      refine ga_ret (v := some _) ?_ rfl (by decide) (by decide) ⟨dX7_partLike_49, _, rfl, rfl⟩
      exact ⟨rfl, -1, rfl, Or.inl ⟨rfl, fun q a d => hall q (by omega) d⟩⟩
    · omega
  · intro i hi k r b hb hb2 hp hall
    refine ga_iload dX7_partLike_5 rfl ?_
    refine ga_aload_n dX7_partLike_7 rfl ?_
    refine hg_getC grX7_15 dX7_partLike_8 rfl rfl ?_
    refine ga_icmp_ge (tgt := 48) dX7_partLike_11 rfl (fun c_11 => ?_) (fun c_11 => ?_)
    · omega
    · refine ga_iload_n dX7_partLike_14 rfl ?_
      refine ga_iconst dX7_partLike_15 ⟨by decide, by decide⟩ ?_
      refine ga_icmp_eq (tgt := 48) dX7_partLike_16 rfl (fun c_16 => ?_) (fun c_16 => ?_)
      · have c9 : r = -1 := c_16
        refine ga_iconst dX7_partLike_48 ⟨by decide, by decide⟩ ?_
        refine ga_ret (v := some _) ?_ rfl (by decide) (by decide) ⟨dX7_partLike_49, _, rfl, rfl⟩
        refine ⟨rfl, -1, rfl, Or.inl ⟨rfl, fun q a d g => ?_⟩⟩
        rcases Int.lt_or_le q b with z | z
        · exact absurd g (hp.2 q (by omega) a z)
        · exact hall q z d g
      · have c9 : ¬ r = -1 := c_16
        obtain ⟨r1, r2, r3⟩ : 0 ≤ r ∧ r < b ∧ oc r = c := hp.1.resolve_left c9
        have hr := hq r r1 (by omega)
        refine ga_aload_n dX7_partLike_19 rfl ?_
        refine ga_iload_n dX7_partLike_20 rfl ?_
        refine ga_aload_n dX7_partLike_21 rfl ?_
        refine hg_getR grX7_37 dX7_partLike_22 rfl rfl ?_
        refine ga_iload_n dX7_partLike_25 rfl ?_
        refine hg_iald dX7_partLike_26 rfl (by omega) (by omega) ?_
        refine hc_V (T_X7_haveSameCodes_29 x _ τ m h1 h2 hr.1 hr.2.1 hm hm2) fX7_haveSameCodes rfl kX7_haveSameCodes lkX7_57 dX7_partLike_27 rfl rfl rfl rfl rfl rfl rfl rfl ?_
        refine ga_if_eq (tgt := 35) dX7_partLike_30 rfl (fun c_30 => ?_) (fun c_30 => ?_)
        · rw [tv_eq0] at c_30
          refine ga_aload_n dX7_partLike_35 rfl ?_
          refine hg_getR grX7_34 dX7_partLike_36 rfl rfl ?_
          refine ga_iload_n dX7_partLike_39 rfl ?_
          refine hg_iald dX7_partLike_40 rfl (by omega) (by omega) ?_
          refine ga_istore_n (lv2 := [_, _, _, _, _]) dX7_partLike_41 (by decide) rfl rfl ?_
          refine ga_iinc (z := ((i + 1 : Nat) : Int)) (lv2 := [_, _, _, _, _]) dX7_partLike_42 (by decide) rfl rfl (by omega) (⟨by omega, by omega⟩) rfl ?_
          refine ga_goto (tgt := 5) dX7_partLike_45 rfl ?_
          have hr3 := hr.2.2
          rw [r3] at hr3
          refine k _ r.toNat (by omega) (by omega) (by rw [Int.toNat_of_nonneg r1]; exact hr3) (fun q a d g => ?_)
          rcases Int.lt_or_le q b with z | z
          · rcases Int.lt_or_le r q with z2 | z2
            · exact absurd g (hp.2 q z2 (by omega) z)
            · rw [show q = r by omega]
              exact c_30
          · exact hall q z d g
        · rw [tv_ne0] at c_30
          refine ga_iload_n dX7_partLike_33 rfl ?_
          refine ga_ret (v := some _) ?_ rfl (by decide) (by decide) ⟨dX7_partLike_34, _, rfl, rfl⟩
          exact ⟨rfl, r, rfl, Or.inr ⟨r1, by omega, r3, c_30⟩⟩
theorem T_X7_split_29 (σ : ga_S) (h0 : ∀ u : Int, 0 ≤ u → u < 80 → -1 ≤ σ.1 30 u ∧ σ.1 30 u < 80) (hcc : ∀ u : Int, 0 ≤ u → u < 80 → 0 ≤ σ.1 32 u ∧ σ.1 32 u ≤ 120) : ga_Mt 2 0 0 mX7_split [Vr 29] (HP σ) (fun v h => ∃ (τ : ga_S) (P : Nat), exc [29, 30, 33, 34, 35] σ τ ∧ τ.1 29 2 = P ∧ v = some (Vi (tv (σ.1 29 2 < P))) ∧ h = HP τ ∧ spl (σ.1 30) (sE (σ.1 30) (σ.1 31) (σ.1 32) 120) 80 (τ.1 30) P) ga_nox := by
  refine ga_meth [some (Vr 29), none, none, none, none] rfl rfl (by decide +kernel) (Nat.le_of_ble_eq_true rfl) rfl ?_
  refine ga_aload_n dX7_split_0 rfl ?_
  refine hg_getR grX7_31 dX7_split_1 rfl rfl ?_
  refine ga_iconst dX7_split_4 ⟨by decide, by decide⟩ ?_
  refine hc_Sv (T_J7_fill rfl (by decide)) fJ7_fill_53178 rfl kJ7_fill_53178 lkX7_40 dX7_split_5 rfl rfl rfl rfl rfl rfl ?_
  refine ga_iconst dX7_split_8 ⟨by decide, by decide⟩ ?_
  refine ga_istore_n (lv2 := [_, _, _, _, _]) dX7_split_9 (by decide) rfl rfl ?_
  refine ga_iconst dX7_split_10 ⟨by decide, by decide⟩ ?_
  refine ga_istore_n (lv2 := [_, _, _, _, _]) dX7_split_11 (by decide) rfl rfl ?_
  refine (ga_loop 80 (fun t => ∀ (τ : ga_S) (P : Nat) y z, exc [30, 33, 34, 35] σ τ → pIv (σ.1 30) (sE (σ.1 30) (σ.1 31) (σ.1 32) 120) 80 (τ.1 30) (τ.1 33) (τ.1 34) (τ.1 35) t P → ga_W 2 0 0 0 0 mX7_split (fun v h => ∃ (τ : ga_S) (P : Nat), exc [29, 30, 33, 34, 35] σ τ ∧ τ.1 29 2 = P ∧ v = some (Vi (tv (σ.1 29 2 < P))) ∧ h = HP τ ∧ spl (σ.1 30) (sE (σ.1 30) (σ.1 31) (σ.1 32) 120) 80 (τ.1 30) P) ga_nox 12 [some (Vr 29), some (Vi (P : Int)), some (Vi (t : Int)), y, z] [] (HP τ)) ?_ ?_ 0 (Nat.zero_le _) (stI σ 33 (fillF (σ.1 33) ((80 : Nat) : Int) (-1))) 0 none none (exc_st exc_r (by decide)) (pIv_0 (fun _ _ _ => rfl) (fun c h1 h2 => fillF_in ⟨h1, by omega⟩)) : _)
  · intro τ P y z hx hi
    have hc2 : τ.1 29 2 = σ.1 29 2 := congrFun (hx.1 29 (by decide)) 2
    have E : ∃ (τ2 : ga_S) (P2 : Nat), exc [29, 30, 33, 34, 35] σ τ2 ∧ τ2.1 29 2 = P2 ∧ some (Vi (tv (σ.1 29 2 < P))) = some (Vi (tv (σ.1 29 2 < P2))) ∧ HP (stI τ 29 (ga_up (τ.1 29) 2 (P : Int))) = HP τ2 ∧ spl (σ.1 30) (sE (σ.1 30) (σ.1 31) (σ.1 32) 120) 80 (τ2.1 30) P2 :=
      ⟨stI τ 29 (ga_up (τ.1 29) 2 (P : Int)), P, exc_st (exc_m hx (by decide)) (by decide), rfl, rfl, rfl, ⟨hi.out, hi.rng, hi.eqv, hi.cnt, by have := hi.le; omega⟩⟩
    refine ga_iload_n dX7_split_12 rfl ?_
    refine ga_aload_n dX7_split_13 rfl ?_
    refine hg_getC grX7_15 dX7_split_14 rfl rfl ?_
    refine ga_icmp_ge (tgt := 103) dX7_split_17 rfl (fun c_17 => ?_) (fun c_17 => ?_)
    · refine ga_iload_n dX7_split_103 rfl ?_
      refine ga_aload_n dX7_split_104 rfl ?_
      refine hg_getI 2 grX7_9 dX7_split_105 rfl rfl rfl ?_
      refine ga_icmp_le (tgt := 115) dX7_split_108 rfl (fun c_108 => ?_) (fun c_108 => ?_)
      · rw [hc2] at c_108
        rw [tvz (show ¬ σ.1 29 2 < P by omega)] at E
        refine ga_iconst dX7_split_115 ⟨by decide, by decide⟩ ?_
        refine ga_istore_n (lv2 := [_, _, _, _, _]) dX7_split_116 (by decide) rfl rfl ?_
        refine ga_aload_n dX7_split_117 rfl ?_
        refine ga_iload_n dX7_split_118 rfl ?_
        refine hg_putI 2 gfX7_9 dX7_split_119 rfl rfl rfl ?_
        refine ga_iload_n dX7_split_122 rfl ?_
        refine ga_ret (v := some _) ?_ rfl (by decide) (by decide) ⟨dX7_split_123, _, rfl, rfl⟩
        exact E
      · rw [hc2] at c_108
        rw [tv1 (show σ.1 29 2 < P by omega)] at E
        refine ga_iconst dX7_split_111 ⟨by decide, by decide⟩ ?_
        refine ga_goto (tgt := 116) dX7_split_112 rfl ?_
        refine ga_istore_n (lv2 := [_, _, _, _, _]) dX7_split_116 (by decide) rfl rfl ?_
        refine ga_aload_n dX7_split_117 rfl ?_
        refine ga_iload_n dX7_split_118 rfl ?_
        refine hg_putI 2 gfX7_9 dX7_split_119 rfl rfl rfl ?_
        refine ga_iload_n dX7_split_122 rfl ?_
        refine ga_ret (v := some _) ?_ rfl (by decide) (by decide) ⟨dX7_split_123, _, rfl, rfl⟩
        exact E
    · omega
  · intro t ht k τ P y z hx hi
    have hle := hi.le
    have e1 : τ.1 30 (t : Int) = σ.1 30 (t : Int) := hi.rest t (by omega) (by omega)
    have e2 : τ.1 31 = σ.1 31 := hx.1 31 (by decide)
    have e3 : τ.1 32 = σ.1 32 := hx.1 32 (by decide)
    refine ga_iload_n dX7_split_12 rfl ?_
    refine ga_aload_n dX7_split_13 rfl ?_
    refine hg_getC grX7_15 dX7_split_14 rfl rfl ?_
    refine ga_icmp_ge (tgt := 103) dX7_split_17 rfl (fun c_17 => ?_) (fun c_17 => ?_)
    · omega
    · refine ga_aload_n dX7_split_20 rfl ?_
      refine hg_getR grX7_21 dX7_split_21 rfl rfl ?_
      refine ga_iload_n dX7_split_24 rfl ?_
      refine hg_iald dX7_split_25 rfl (by omega) (by omega) ?_
      rw [e1]
      refine ga_istore_n (lv2 := [_, _, _, _, _]) dX7_split_26 (by decide) rfl rfl ?_
      refine ga_iload_n dX7_split_27 rfl ?_
      refine ga_iconst dX7_split_28 ⟨by decide, by decide⟩ ?_
      refine ga_icmp_ne (tgt := 35) dX7_split_29 rfl (fun c_29 => ?_) (fun c_29 => ?_)
      · have c9 : ¬ σ.1 30 (t : Int) = -1 := c_29
        have ho := h0 t (by omega) (by omega)
        have hcx := hcc t (by omega) (by omega)
        refine ga_aload_n dX7_split_35 rfl ?_
        refine ga_iload_n dX7_split_36 rfl ?_
        refine ga_aload_n dX7_split_37 rfl ?_
        refine hg_getR grX7_31 dX7_split_38 rfl rfl ?_
        refine ga_iload_n dX7_split_41 rfl ?_
        refine hg_iald dX7_split_42 rfl (by omega) (by omega) ?_
        refine hc_VP (T_X7_partLike_29 t _ (σ.1 30 t) τ (σ.1 32 t).toNat P (fun p => σ.1 30 (τ.1 35 p)) (by omega) (by omega) (by rw [e3]; omega) (by omega) (by omega) (hi.new _ (by omega) (by omega)) (fun q a b => ⟨(hi.fst q a b).1, by have := (hi.fst q a b).2.1; omega, hi.bef q a b⟩)) fX7_partLike rfl kX7_partLike lkX7_53 dX7_split_43 rfl rfl rfl rfl rfl rfl rfl rfl ?_
        rintro v h ⟨q1, r, q2, q3⟩
        rw [q1, q2]
        rw [e2, e3] at q3
        refine ga_istore (lv2 := [_, _, _, _, _]) dX7_split_46 (by decide) rfl rfl ?_
        refine ga_iload dX7_split_48 rfl ?_
        refine ga_iconst dX7_split_50 ⟨by decide, by decide⟩ ?_
        refine ga_icmp_ne (tgt := 89) dX7_split_51 rfl (fun c_51 => ?_) (fun c_51 => ?_)
        · have c8 : ¬ r = -1 := c_51
          obtain ⟨r1, r2, r3, r4⟩ := q3.resolve_left (fun z => c8 z.1)
          refine ga_aload_n dX7_split_89 rfl ?_
          refine hg_getR grX7_21 dX7_split_90 rfl rfl ?_
          refine ga_iload_n dX7_split_93 rfl ?_
          refine ga_iload dX7_split_94 rfl ?_
          refine hg_iast dX7_split_96 rfl (by omega) (by omega) ?_
          refine ga_iinc (z := ((t + 1 : Nat) : Int)) (lv2 := [_, _, _, _, _]) dX7_split_97 (by decide) rfl rfl (by omega) (⟨by omega, by omega⟩) rfl ?_
          refine ga_goto (tgt := 12) dX7_split_100 rfl ?_
          exact k _ P _ _ (exc_st hx (by decide)) (pIv_old sE_q hi c9 r1 r2 ⟨r3.symm, r4⟩)
        · have c8 : r = -1 := c_51
          have q4 := (q3.resolve_right (fun z => by omega)).2
          refine ga_iload_n dX7_split_54 rfl ?_
          refine ga_istore (lv2 := [_, _, _, _, _]) dX7_split_55 (by decide) rfl rfl ?_
          refine ga_aload_n dX7_split_57 rfl ?_
          refine hg_getR grX7_37 dX7_split_58 rfl rfl ?_
          refine ga_iload dX7_split_61 rfl ?_
          refine ga_iload_n dX7_split_63 rfl ?_
          refine hg_iast dX7_split_64 rfl (by omega) (by omega) ?_
          refine ga_aload_n dX7_split_65 rfl ?_
          refine hg_getR grX7_34 dX7_split_66 rfl rfl ?_
          refine ga_iload dX7_split_69 rfl ?_
          refine ga_aload_n dX7_split_71 rfl ?_
          refine hg_getR grX7_31 dX7_split_72 rfl rfl ?_
          refine ga_iload_n dX7_split_75 rfl ?_
          refine hg_iald dX7_split_76 rfl (by omega) (by omega) ?_
          refine hg_iast dX7_split_77 rfl (by omega) (by omega) ?_
          refine ga_aload_n dX7_split_78 rfl ?_
          refine hg_getR grX7_31 dX7_split_79 rfl rfl ?_
          refine ga_iload_n dX7_split_82 rfl ?_
          refine ga_iload dX7_split_83 rfl ?_
          refine hg_iast dX7_split_85 rfl (by omega) (by omega) ?_
          refine ga_iinc (z := ((P + 1 : Nat) : Int)) (lv2 := [_, _, _, _, _]) dX7_split_86 (by decide) rfl rfl (by omega) (⟨by omega, by omega⟩) rfl ?_
          refine ga_aload_n dX7_split_89 rfl ?_
          refine hg_getR grX7_21 dX7_split_90 rfl rfl ?_
          refine ga_iload_n dX7_split_93 rfl ?_
          refine ga_iload dX7_split_94 rfl ?_
          refine hg_iast dX7_split_96 rfl (by omega) (by omega) ?_
          refine ga_iinc (z := ((t + 1 : Nat) : Int)) (lv2 := [_, _, _, _, _]) dX7_split_97 (by decide) rfl rfl (by omega) (⟨by omega, by omega⟩) rfl ?_
          refine ga_goto (tgt := 12) dX7_split_100 rfl ?_
          exact k _ (P + 1) _ _ (exc_st (exc_st (exc_st (exc_st hx (by decide)) (by decide)) (by decide)) (by decide)) (pIv_new sE_q hi (by omega) ⟨by omega, by omega⟩ (fun q a b d z => q4 q a b d z.2))
      · have c9 : σ.1 30 (t : Int) = -1 := c_29
        refine ga_goto (tgt := 97) dX7_split_32 rfl ?_
        refine ga_iinc (z := ((t + 1 : Nat) : Int)) (lv2 := [_, _, _, _, _]) dX7_split_97 (by decide) rfl rfl (by omega) (⟨by omega, by omega⟩) rfl ?_
        refine ga_goto (tgt := 12) dX7_split_100 rfl ?_
        exact k _ P _ _ hx (pIv_out hi (by omega) c9)
