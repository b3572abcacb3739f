-- names that one side alone has: class and reference look for the same ones
def inP (p : Int → Int) (N : Nat) (y : Int) : Prop := ∃ i : Int, 0 ≤ i ∧ i < N ∧ p i = y
theorem nameF_is {p : Int → Int} {a : Int} (ha : -1 ≤ a) : ∀ N : Nat, (nameF p a N = -1 ∧ ∀ i : Int, 0 ≤ i → i < N → p i ≤ a) ∨ (a < nameF p a N ∧ inP p N (nameF p a N) ∧ ∀ i : Int, 0 ≤ i → i < N → a < p i → nameF p a N ≤ p i)
  | 0 => Or.inl ⟨rfl, fun i a b => by omega⟩
  | N + 1 => by
    have ih := nameF_is (p := p) ha N
    have e : nameF p a (N + 1) = nameStep a (nameF p a N) (p N) := rfl
    rw [e]
    unfold nameStep
    by_cases q : a < p N ∧ (nameF p a N = -1 ∨ p N < nameF p a N)
    · rw [if_pos q]
      refine Or.inr ⟨q.1, ⟨N, by omega, by omega, rfl⟩, fun i i1 i2 i3 => ?_⟩
      by_cases w : i = N
      · rw [w]; exact Int.le_refl _
      · rcases ih with ⟨h1, h2⟩ | ⟨h1, h2, h3⟩
        · have := h2 i i1 (by omega)
          omega
        · have := h3 i i1 (by omega) i3
          omega
    · rw [if_neg q]
      rcases ih with ⟨h1, h2⟩ | ⟨h1, h2, h3⟩
      · refine Or.inl ⟨h1, fun i i1 i2 => ?_⟩
        by_cases w : i = N
        · rw [w]
          rcases Int.lt_or_le a (p N) with z | z
          · exact absurd ⟨z, Or.inl h1⟩ q
          · exact z
        · exact h2 i i1 (by omega)
      · obtain ⟨i, i1, i2, i3⟩ := h2
        refine Or.inr ⟨h1, ⟨i, i1, by omega, i3⟩, fun j j1 j2 j3 => ?_⟩
        by_cases w : j = N
        · rw [w] at j3 ⊢
          rcases Int.lt_or_le (p N) (nameF p a N) with z | z
          · exact absurd ⟨j3, Or.inr z⟩ q
          · exact z
        · exact h3 j j1 (by omega) j3
/-- x is the least above a that one of the two alone has, or -1 -/
def UN (h0 h1 : Int → Prop) (a x : Int) : Prop := (x = -1 ∧ ∀ y : Int, a < y → (h0 y ↔ h1 y)) ∨ (a < x ∧ ¬ (h0 x ↔ h1 x) ∧ ∀ y : Int, a < y → y < x → (h0 y ↔ h1 y))
theorem UN_one {h0 h1 : Int → Prop} {a x x2 : Int} (ha : -1 ≤ a) (h : UN h0 h1 a x) (g : UN h0 h1 a x2) : x = x2 := by
  rcases h with ⟨e1, e2⟩ | ⟨e1, e2, e3⟩ <;> rcases g with ⟨f1, f2⟩ | ⟨f1, f2, f3⟩
  · omega
  · exact absurd (e2 x2 f1) f2
  · exact absurd (f2 x e1) e2
  · rcases Int.lt_or_le x x2 with w | w
    · exact absurd (f3 x e1 w) e2
    · rcases Int.lt_or_le x2 x with w2 | w2
      · exact absurd (e3 x2 f1 w2) f2
      · omega
theorem sz_lt {P Q : Int → Prop} {n k : Nat} (h : ∀ i : Nat, i < n → P i → Q i) (hk : k < n) (h1 : ¬ P k) (h2 : Q k) : sz (fun i => tv (P i)) n < sz (fun i => tv (Q i)) n := by
  have le := sz_mono (f := fun i => tv (P i)) (g := fun i => tv (Q i)) (n := n) (fun i hi => tv_mono (h i hi))
  rcases Int.lt_or_le (sz (fun i => tv (P i)) n) (sz (fun i => tv (Q i)) n) with w | w
  · exact w
  · have := sz_same (f := fun i => tv (P i)) (g := fun i => tv (Q i)) (n := n) (fun i hi => tv_mono (h i hi)) (by omega) k hk
    rw [tvz h1, tv1 h2] at this
    exact absurd this (by decide)
theorem unev_UN {p q : Int → Int} {N M : Nat} : ∀ (n : Nat) (a : Int), -1 ≤ a → sz (fun i => tv (a < p i)) N < n → UN (inP p N) (inP q M) a (unev p q N M n a)
  | 0, a, _, h => by
    have := sz_nn (f := fun i => tv (a < p i)) (fun _ => tv_le.1) N
    omega
  | n + 1, a, ha, h => by
    have P := nameF_is (p := p) ha N
    have Q := nameF_is (p := q) ha M
    have e : unev p q N M (n + 1) a = if nameF p a N ≠ nameF q a M then (if nameF p a N = -1 ∨ (nameF q a M ≠ -1 ∧ nameF q a M < nameF p a N) then nameF q a M else nameF p a N) else if nameF p a N = -1 then -1 else unev p q N M n (nameF p a N) := rfl
    rw [e]
    generalize nameF p a N = x at P
    generalize nameF q a M = y at Q
    -- what is between
    have NP : ∀ z : Int, a < z → (x = -1 ∨ z < x) → ¬ inP p N z := by
      rintro z z1 z2 ⟨i, i1, i2, i3⟩
      rcases P with ⟨p1, p2⟩ | ⟨p1, p2, p3⟩
      · have := p2 i i1 i2
        omega
      · have := p3 i i1 i2 (by omega)
        omega
    have NQ : ∀ z : Int, a < z → (y = -1 ∨ z < y) → ¬ inP q M z := by
      rintro z z1 z2 ⟨i, i1, i2, i3⟩
      rcases Q with ⟨p1, p2⟩ | ⟨p1, p2, p3⟩
      · have := p2 i i1 i2
        omega
      · have := p3 i i1 i2 (by omega)
        omega
    have BOTH : ∀ z : Int, a < z → (x = -1 ∨ z < x) → (y = -1 ∨ z < y) → (inP p N z ↔ inP q M z) := fun z z1 z2 z3 => ⟨fun w => absurd w (NP z z1 z2), fun w => absurd w (NQ z z1 z3)⟩
    by_cases hxy : x ≠ y
    · rw [if_pos hxy]
      by_cases c : x = -1 ∨ (y ≠ -1 ∧ y < x)
      · rw [if_pos c]
        rcases Q with ⟨p1, p2⟩ | ⟨p1, p2, p3⟩
        · omega
        · refine Or.inr ⟨p1, fun w => NP y p1 (by omega) (w.mpr p2), fun z z1 z2 => BOTH z z1 (by omega) (by omega)⟩
      · rw [if_neg c]
        rcases P with ⟨p1, p2⟩ | ⟨p1, p2, p3⟩
        · exact absurd (Or.inl p1) c
        · refine Or.inr ⟨p1, fun w => NQ x p1 (by omega) (w.mp p2), fun z z1 z2 => BOTH z z1 (by omega) (by omega)⟩
    · rw [if_neg hxy]
      have hxy' : x = y := by omega
      by_cases c : x = -1
      · rw [if_pos c]
        exact Or.inl ⟨rfl, fun z z1 => BOTH z z1 (by omega) (by omega)⟩
      · rw [if_neg c]
        rcases P with ⟨p1, p2⟩ | ⟨p1, p2, p3⟩
        · exact absurd p1 c
        · rcases Q with ⟨q1, q2⟩ | ⟨q1, q2, q3⟩
          · omega
          · have EQ : ∀ z : Int, a < z → z ≤ x → (inP p N z ↔ inP q M z) := by
              intro z z1 z2
              by_cases w : z = x
              · rw [w]
                exact ⟨fun _ => by rw [hxy']; exact q2, fun _ => p2⟩
              · exact BOTH z z1 (by omega) (by omega)
            obtain ⟨k, k1, k2, k3⟩ := p2
            have lt := sz_lt (P := fun i => x < p i) (Q := fun i => a < p i) (n := N) (k := k.toNat) (fun i _ w => by omega) (by omega) (by rw [Int.toNat_of_nonneg k1]; omega) (by rw [Int.toNat_of_nonneg k1]; omega)
            have ih := unev_UN (p := p) (q := q) (N := N) (M := M) n x (by omega) (by omega)
            rcases ih with ⟨r1, r2⟩ | ⟨r1, r2, r3⟩
            · refine Or.inl ⟨r1, fun z z1 => ?_⟩
              rcases Int.lt_or_le x z with w | w
              · exact r2 z w
              · exact EQ z z1 w
            · refine Or.inr ⟨by omega, r2, fun z z1 z2 => ?_⟩
              rcases Int.lt_or_le x z with w | w
              · exact r3 z w z2
              · exact EQ z z1 w
theorem unev_80 {p q : Int → Int} {N M : Nat} (hN2 : N ≤ 40) {a : Int} (ha : -1 ≤ a) : UN (inP p N) (inP q M) a (unev p q N M 80 a) := by
  have := sz_b (f := fun i => tv (a < p i)) (fun _ => tv_le) (n := N)
  exact unev_UN 80 a ha (by omega)
/-- the reference's look -/
theorem bsF_is {σ : ga_S} {a : Int} (ha : -1 ≤ a) : ∀ n : Nat, (bsF σ a n = -1 ∧ ∀ k : Int, 0 ≤ k → k < n → ¬ lonP σ a k) ∨ (a < bsF σ a n ∧ (∃ k : Int, 0 ≤ k ∧ k < n ∧ lonP σ a k ∧ σ.1 64 k = bsF σ a n) ∧ ∀ k : Int, 0 ≤ k → k < n → lonP σ a k → bsF σ a n ≤ σ.1 64 k)
  | 0 => Or.inl ⟨rfl, fun k a b => by omega⟩
  | n + 1 => by
    have ih := bsF_is (σ := σ) ha n
    rw [bsF_s]
    rcases Classical.em (lonP σ a n ∧ (bsF σ a n = -1 ∨ σ.1 64 n < bsF σ a n)) with q | q
    · rw [tif1 q]
      refine Or.inr ⟨q.1.2.1, ⟨n, by omega, by omega, q.1, rfl⟩, fun k k1 k2 k3 => ?_⟩
      by_cases w : k = n
      · rw [w]; exact Int.le_refl _
      · rcases ih with ⟨h1, h2⟩ | ⟨h1, h2, h3⟩
        · exact absurd k3 (h2 k k1 (by omega))
        · have := h3 k k1 (by omega) k3
          omega
    · rw [tif0 q]
      rcases ih with ⟨h1, h2⟩ | ⟨h1, ⟨k, k1, k2, k3⟩, h3⟩
      · refine Or.inl ⟨h1, fun k k1 k2 => ?_⟩
        by_cases w : k = n
        · rw [w]; exact fun z => q ⟨z, Or.inl h1⟩
        · exact h2 k k1 (by omega)
      · refine Or.inr ⟨h1, ⟨k, k1, by omega, k3⟩, fun j j1 j2 j3 => ?_⟩
        by_cases w : j = n
        · rw [w] at j3 ⊢
          rcases Int.lt_or_le (σ.1 64 n) (bsF σ a n) with z | z
          · exact absurd ⟨j3, Or.inr z⟩ q
          · exact z
        · exact h3 j j1 (by omega) j3
section Names
variable {σ : ga_S} {N M : Nat}
theorem lon_iff (hNN : σ.1 65 0 = N) (hN2 : N ≤ 40) (hM : σ.1 65 1 = M) (hM2 : M ≤ 40) {a y : Int} : (∃ k : Int, 0 ≤ k ∧ k < 80 ∧ lonP σ a k ∧ σ.1 64 k = y) ↔ a < y ∧ ¬ (hN σ 0 N y ↔ hN σ 1 M y) := by
  constructor
  · rintro ⟨k, k1, k2, ⟨l1, l2, l3⟩, rfl⟩
    refine ⟨l2, fun w => l3 ?_⟩
    rcases (show k / 40 = 0 ∨ k / 40 = 1 by omega) with q | q
    · rw [q] at l1 ⊢
      rw [hNN] at l1
      rw [show (1 : Int) - 0 = 1 by omega, hM, Int.toNat_natCast]
      exact w.mp ⟨k, k1, by omega, by rw [show 40 * (0 : Int) + k = k by omega]⟩
    · rw [q] at l1 ⊢
      rw [hM] at l1
      rw [show (1 : Int) - 1 = 0 by omega, hNN, Int.toNat_natCast]
      exact w.mpr ⟨k - 40, by omega, by omega, by rw [show 40 * (1 : Int) + (k - 40) = k by omega]⟩
  · rintro ⟨h1, h2⟩
    rcases Classical.em (hN σ 0 N y) with a0 | a0
    · have n1 : ¬ hN σ 1 M y := fun w => h2 ⟨fun _ => w, fun _ => a0⟩
      obtain ⟨i, i1, i2, i3⟩ := a0
      rw [show 40 * (0 : Int) + i = i by omega] at i3
      refine ⟨i, i1, by omega, ⟨?_, by omega, ?_⟩, i3⟩
      · rw [show i / 40 = 0 by omega, hNN]; omega
      · rw [show i / 40 = 0 by omega, show (1 : Int) - 0 = 1 by omega, hM, Int.toNat_natCast, i3]; exact n1
    · have y1 : hN σ 1 M y := by
        rcases Classical.em (hN σ 1 M y) with w | w
        · exact w
        · exact absurd ⟨fun z => absurd z a0, fun z => absurd z w⟩ h2
      obtain ⟨i, i1, i2, i3⟩ := y1
      rw [show 40 * (1 : Int) + i = 40 + i by omega] at i3
      refine ⟨40 + i, by omega, by omega, ⟨?_, by omega, ?_⟩, i3⟩
      · rw [show (40 + i) / 40 = 1 by omega, hM]; omega
      · rw [show (40 + i) / 40 = 1 by omega, show (1 : Int) - 1 = 0 by omega, hNN, Int.toNat_natCast, i3]; exact a0
theorem bsF_UN (hNN : σ.1 65 0 = N) (hN2 : N ≤ 40) (hM : σ.1 65 1 = M) (hM2 : M ≤ 40) {a : Int} (ha : -1 ≤ a) : UN (hN σ 0 N) (hN σ 1 M) a (bsF σ a 80) := by
  rcases bsF_is (σ := σ) ha 80 with ⟨b1, b2⟩ | ⟨b1, ⟨k, k1, k2, k3, k4⟩, b3⟩
  · refine Or.inl ⟨b1, fun y y1 => ?_⟩
    rcases Classical.em (hN σ 0 N y ↔ hN σ 1 M y) with w | w
    · exact w
    · obtain ⟨k, k1, k2, k3, _⟩ := (lon_iff hNN hN2 hM hM2).mpr ⟨y1, w⟩
      exact absurd k3 (b2 k k1 k2)
  · refine Or.inr ⟨b1, ?_, fun y y1 y2 => ?_⟩
    · exact ((lon_iff hNN hN2 hM hM2 (a := a)).mp ⟨k, k1, k2, k3, k4⟩).2
    · rcases Classical.em (hN σ 0 N y ↔ hN σ 1 M y) with w | w
      · exact w
      · obtain ⟨j, j1, j2, j3, j4⟩ := (lon_iff hNN hN2 hM hM2).mpr ⟨y1, w⟩
        have := b3 j j1 j2 j3
        omega
theorem hN_in {p : Int → Int} {s : Int} {X : Nat} (h : ∀ n : Int, 0 ≤ n → n < X → p n = σ.1 64 (40 * s + n)) : inP p X = hN σ s X := by
  funext y
  apply propext
  constructor
  · rintro ⟨i, i1, i2, i3⟩
    exact ⟨i, i1, i2, by rw [← h i i1 i2]; exact i3⟩
  · rintro ⟨i, i1, i2, i3⟩
    exact ⟨i, i1, i2, by rw [h i i1 i2]; exact i3⟩
theorem hasN_in {p : Int → Int} {X : Nat} {y : Int} (hy : y ≠ -1) : hasN p X y ↔ inP p X y := by
  unfold hasN
  rcases firstF_is (fun n => decide (p n ≠ -1 ∧ p n = y)) X 0 (Int.le_refl _) with ⟨q1, q2⟩ | ⟨q1, q2, q3⟩
  · rw [q1]
    refine ⟨fun w => absurd rfl w, ?_⟩
    rintro ⟨i, i1, i2, i3⟩
    have := of_decide_eq_false (q2 i i1 (by omega))
    exact absurd ⟨by omega, i3⟩ this
  · have := of_decide_eq_true q3
    exact ⟨fun _ => ⟨_, q1, by omega, this.2⟩, fun _ => by omega⟩
theorem unev_bs {p q : Int → Int} (hNN : σ.1 65 0 = N) (hN2 : N ≤ 40) (hM : σ.1 65 1 = M) (hM2 : M ≤ 40) (hp : ∀ n : Int, 0 ≤ n → n < N → p n = σ.1 64 (40 * 0 + n)) (hq : ∀ n : Int, 0 ≤ n → n < M → q n = σ.1 64 (40 * 1 + n)) {a : Int} (ha : -1 ≤ a) : unev p q N M 80 a = bsF σ a 80 := by
  have u := unev_80 (p := p) (q := q) (M := M) hN2 ha
  rw [hN_in hp, hN_in hq] at u
  exact UN_one ha u (bsF_UN hNN hN2 hM hM2 ha)
theorem nmL_NmR {p q : Int → Int} (hNN : σ.1 65 0 = N) (hN2 : N ≤ 40) (hM : σ.1 65 1 = M) (hM2 : M ≤ 40) (hp : ∀ n : Int, 0 ≤ n → n < N → p n = σ.1 64 (40 * 0 + n)) (hq : ∀ n : Int, 0 ≤ n → n < M → q n = σ.1 64 (40 * 1 + n)) : ∀ (n : Nat) (a : Int), -1 ≤ a → sz (fun k => tv (lonP σ a k)) 80 ≤ n → NmR σ N M (nmL p q N M n a) a := by
  intro n
  induction n with
  | zero =>
    intro a ha h
    have e : nmL p q N M 0 a = [] := by unfold nmL; rfl
    rw [e]
    rcases bsF_is (σ := σ) ha 80 with ⟨b1, b2⟩ | ⟨b1, ⟨k, k1, k2, k3, k4⟩, b3⟩
    · unfold NmR
      exact b1
    · have := sz_ge1 (P := fun k => lonP σ a k) (n := 80) (i := k.toNat) (by omega) (by rw [Int.toNat_of_nonneg k1]; exact k3)
      omega
  | succ n ih =>
    intro a ha h
    rw [nmL_s, unev_bs hNN hN2 hM hM2 hp hq ha]
    have U := bsF_UN hNN hN2 hM hM2 ha
    rcases bsF_is (σ := σ) ha 80 with ⟨b1, b2⟩ | ⟨b1, ⟨k, k1, k2, k3, k4⟩, b3⟩
    · rw [tif1 b1]
      unfold NmR
      exact b1
    · rw [tif0 (by omega)]
      have lt := sz_lt (P := fun k => lonP σ (bsF σ a 80) k) (Q := fun k => lonP σ a k) (n := 80) (k := k.toNat) (fun i _ w => ⟨w.1, by have := w.2.1; omega, w.2.2⟩) (by omega) (by rw [Int.toNat_of_nonneg k1]; exact fun w => by have := w.2.1; omega) (by rw [Int.toNat_of_nonneg k1]; exact k3)
      unfold NmR
      refine ⟨by omega, ?_, ih _ (by omega) (by omega)⟩
      unfold nmX
      have hx : hasN p N (bsF σ a 80) ↔ hN σ 0 N (bsF σ a 80) := by rw [hasN_in (by omega), hN_in hp]
      have e1 : 1 - tv (hasN p N (bsF σ a 80)) = tv (hN σ 1 M (bsF σ a 80)) := by
        rw [tv_congr hx]
        rcases U with ⟨u1, _⟩ | ⟨u1, u2, _⟩
        · omega
        · rcases Classical.em (hN σ 0 N (bsF σ a 80)) with w | w
          · rw [tv1 w, tvz (fun z => u2 ⟨fun _ => z, fun _ => w⟩)]; rfl
          · rw [tvz w]
            rcases Classical.em (hN σ 1 M (bsF σ a 80)) with w2 | w2
            · rw [tv1 w2]; rfl
            · exact absurd ⟨fun z => absurd z w, fun z => absurd z w2⟩ u2
      rw [e1, tv_congr hx]
theorem nmL_len (p q : Int → Int) (N M : Nat) : ∀ (n : Nat) (a : Int), (nmL p q N M n a).length ≤ n
  | 0, _ => Nat.le_refl _
  | n + 1, a => by
    rw [nmL_s]
    rcases Classical.em (unev p q N M 80 a = -1) with w | w
    · rw [tif1 w]; exact Nat.zero_le _
    · rw [tif0 w, List.length_cons]
      have := nmL_len p q N M n (unev p q N M 80 a)
      omega
/-- all names are shared -/
theorem nmP_iff (hNN : σ.1 65 0 = N) (hN2 : N ≤ 40) (hM : σ.1 65 1 = M) (hM2 : M ≤ 40) (hpt : ∀ y : Int, 0 ≤ y → y < 80 → -1 ≤ σ.1 64 y) : (∀ k : Nat, k < 80 → nmP σ k) ↔ bsF σ (-1) 80 = -1 := by
  constructor
  · intro h
    rcases bsF_is (σ := σ) (Int.le_refl (-1)) 80 with ⟨b1, b2⟩ | ⟨b1, ⟨k, k1, k2, k3, k4⟩, b3⟩
    · exact b1
    · have := h k.toNat (by omega)
      unfold nmP at this
      rw [Int.toNat_of_nonneg k1] at this
      exact absurd (this ⟨k3.1, by have := k3.2.1; omega⟩) k3.2.2
  · intro h k hk w
    rcases bsF_is (σ := σ) (Int.le_refl (-1)) 80 with ⟨b1, b2⟩ | ⟨b1, _⟩
    · rcases Classical.em (hN σ (1 - (k : Int) / 40) (σ.1 65 (1 - (k : Int) / 40)).toNat (σ.1 64 k)) with z | z
      · exact z
      · have pt := hpt k (by omega) (by omega)
        exact absurd ⟨w.1, by have := w.2; omega, z⟩ (b2 k (by omega) (by omega))
    · omega
end Names
