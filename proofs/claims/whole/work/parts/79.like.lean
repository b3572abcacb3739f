-- likeness, told by what one of the two has
theorem sz_sh (f : Int → Int) (a : Nat) : ∀ n : Nat, sz f (a + n) = sz f a + sz (fun i => f (a + i)) n
  | 0 => by rw [Nat.add_zero]; show _ = sz f a + 0; omega
  | n + 1 => by
    rw [← Nat.add_assoc, sz_s, sz_s, sz_sh f a n, show ((a + n : Nat) : Int) = a + n by omega]
    omega
theorem sz_z {f : Int → Int} : ∀ {n : Nat}, (∀ i : Nat, i < n → f i = 0) → sz f n = 0
  | 0, _ => rfl
  | n + 1, h => by rw [sz_s, sz_z (fun i hi => h i (by omega)), h n (by omega)]; rfl
theorem sz_4 (f : Int → Int) : ∀ n : Nat, sz f (4 * n) = sz (fun d => sz (fun k => f (4 * d + k)) 4) n
  | 0 => rfl
  | n + 1 => by
    rw [show 4 * (n + 1) = 4 * n + 4 by omega, sz_sh, sz_4 f n, sz_s]
    congr 1
/-- a sum over a window -/
theorem sz_wi {f : Int → Int} {a w n : Nat} (h : a + w ≤ n) (h1 : ∀ i : Nat, i < a → f i = 0) (h2 : ∀ i : Nat, a + w ≤ i → i < n → f i = 0) : sz f n = sz (fun i => f (a + i)) w := by
  obtain ⟨r, hr⟩ : ∃ r, n = a + w + r := ⟨n - (a + w), by omega⟩
  rw [hr, sz_sh, sz_sh, sz_z (n := a) h1, sz_z (n := r) (fun i hi => by rw [← show ((a + w + i : Nat) : Int) = ((a + w : Nat) : Int) + i by omega]; exact h2 _ (by omega) (by omega))]
  omega
theorem sz_pick {A : Prop} {a : Int} (h0 : 0 ≤ a) : ∀ {n : Nat}, a < n → sz (fun j => tv (A ∧ a = j)) n = tv A
  | 0, h => by omega
  | n + 1, h => by
    rw [sz_s]
    by_cases e : a = n
    · have z := (sz_one (A := A) (a := a) n).2 (Or.inr (by omega))
      rw [z, tv_congr (q := A) ⟨fun w => w.1, fun w => ⟨w, e⟩⟩]
      omega
    · rw [sz_pick h0 (by omega), tvz (p := A ∧ a = n) (fun w => e w.2)]
      omega
theorem sz_fibQ {Q : Int → Prop} {f : Int → Int} {B : Nat} : ∀ c : Nat, (∀ i : Nat, i < c → Q i → 0 ≤ f i ∧ f i < B) → sz (fun K => sz (fun i => tv (Q i ∧ f i = K)) c) B = sz (fun i => tv (Q i)) c
  | 0, _ => sz_zero B
  | c + 1, h => by
    have e : sz (fun K => sz (fun i => tv (Q i ∧ f i = K)) (c + 1)) B = sz (fun K => sz (fun i => tv (Q i ∧ f i = K)) c + tv (Q c ∧ f c = K)) B := rfl
    rw [e, sz_add, sz_fibQ c (fun i hi => h i (by omega)), sz_s]
    congr 1
    rcases Classical.em (Q c) with q | q
    · have := h c (by omega) q
      exact sz_pick this.1 this.2
    · rw [tvz q]
      exact sz_z (fun i _ => tvz (fun w => q w.1))
theorem tot_eq {Q1 Q2 : Int → Prop} {f : Int → Int} {n B : Nat} (b1 : ∀ i : Nat, i < n → Q1 i → 0 ≤ f i ∧ f i < B) (b2 : ∀ i : Nat, i < n → Q2 i → 0 ≤ f i ∧ f i < B) (ht : sz (fun z => tv (Q1 z)) n = sz (fun z => tv (Q2 z)) n)
    (h : ∀ i : Nat, i < n → Q1 i → sz (fun z => tv (Q1 z ∧ f z = f i)) n = sz (fun z => tv (Q2 z ∧ f z = f i)) n) (c : Int) : sz (fun z => tv (Q1 z ∧ f z = c)) n = sz (fun z => tv (Q2 z ∧ f z = c)) n := by
  have nn := fun (Q : Int → Prop) (K : Int) => sz_nn (f := fun z => tv (Q z ∧ f z = K)) (fun _ => tv_le.1) n
  have le : ∀ K : Int, sz (fun z => tv (Q1 z ∧ f z = K)) n ≤ sz (fun z => tv (Q2 z ∧ f z = K)) n := by
    intro K
    rcases Int.lt_or_le 0 (sz (fun z => tv (Q1 z ∧ f z = K)) n) with q | q
    · obtain ⟨i, i1, i2, i3⟩ := sz_pos q
      have := h i i1 i2
      rw [i3] at this
      omega
    · have := nn Q2 K
      omega
  by_cases hc : 0 ≤ c ∧ c < B
  · have s1 := sz_fibQ (B := B) n b1
    have s2 := sz_fibQ (B := B) n b2
    have := sz_same (f := fun K => sz (fun z => tv (Q1 z ∧ f z = K)) n) (g := fun K => sz (fun z => tv (Q2 z ∧ f z = K)) n) (n := B) (fun i _ => le i) (by rw [s1, s2, ht]) c.toNat (by omega)
    rw [Int.toNat_of_nonneg hc.1] at this
    exact this
  · rw [sz_z (fun i hi => tvz (fun w => by have := b1 i hi w.1; rw [w.2] at this; exact hc this)), sz_z (fun i hi => tvz (fun w => by have := b2 i hi w.1; rw [w.2] at this; exact hc this))]
noncomputable def dcC (β : ga_S) (RN : Int → Int) (x c : Int) : Int := sz (fun k => tv (dcode β RN (4 * x + k) = c)) 4
theorem evD_cnt {β : ga_S} {RN : Int → Int} {x c : Int} (x1 : 0 ≤ x) (x2 : x < 60) (hl : bL β x) : sz (fun z => tv (evD β x z ∧ dcode β RN z = c)) 240 = dcC β RN x c := by
  obtain ⟨X, rfl⟩ : ∃ X : Nat, x = X := ⟨x.toNat, by omega⟩
  rw [sz_wi (a := 4 * X) (w := 4) (by omega) (fun i hi => tvz (fun w => by have := w.1.1; omega)) (fun i h1 h2 => tvz (fun w => by have := w.1.1; omega))]
  unfold dcC
  apply sz_congr
  intro k hk
  rw [show ((4 * X : Nat) : Int) + k = 4 * (X : Int) + k by omega]
  exact tv_congr ⟨fun w => w.2, fun w => ⟨⟨by omega, hl⟩, w⟩⟩
/-- the nets' numbers are told from 'none' -/
def okN (β : ga_S) (RN : Int → Int) : Prop := ∀ y : Int, 0 ≤ y → y < 80 → bU β y → 0 ≤ RN y ∧ RN y < 80
def okD (β : ga_S) (RD : Int → Int) : Prop := ∀ x : Int, 0 ≤ x → x < 60 → bL β x → 0 ≤ RD x ∧ RD x < 60
theorem nC_b {β : ga_S} {RN : Int → Int} (hp : pinB β) (hu : usdB β) (hn : okN β RN) {z : Int} (z1 : 0 ≤ z) (z2 : z < 240) (hl : bL β (z / 4)) : (β.1 69 z = -1 ∧ nC β RN z = -1) ∨ (β.1 69 z ≠ -1 ∧ nC β RN z = RN (40 * (z / 120) + β.1 69 z) ∧ 0 ≤ nC β RN z ∧ nC β RN z < 80) := by
  unfold nC
  by_cases q : β.1 69 z = -1
  · left; exact ⟨q, if_pos q⟩
  · right
    have p := hp z z1 z2 hl
    have u := hn (40 * (z / 120) + β.1 69 z) (by omega) (by omega) (hu z z1 z2 hl q)
    rw [if_neg q]
    exact ⟨q, rfl, u.1, u.2⟩
theorem lkD_iff {β : ga_S} {RN : Int → Int} (hp : pinB β) (hu : usdB β) (hg : grpB β) (hn : okN β RN) {a b : Int} (a1 : 0 ≤ a) (a2 : a < 60) (b1 : 0 ≤ b) (b2 : b < 60) (la : bL β a) (lb : bL β b) : lkD β RN a b ↔ ∀ k : Nat, k < 4 → dcC β RN a (dcode β RN (4 * a + k)) = dcC β RN b (dcode β RN (4 * a + k)) := by
  constructor
  · intro h k hk
    have := h (dcode β RN (4 * a + k))
    rw [evD_cnt a1 a2 la, evD_cnt b1 b2 lb] at this
    exact this
  · intro h c
    have bd : ∀ x : Int, 0 ≤ x → x < 60 → bL β x → ∀ i : Nat, i < 240 → evD β x i → 0 ≤ dcode β RN i ∧ dcode β RN i < (324 : Nat) := by
      intro x x1 x2 lx i hi w
      have w1 := w.1
      have l : bL β ((i : Int) / 4) := by rw [w1]; exact lx
      have g := hg i (by omega) (by omega) l
      unfold dcode
      rcases nC_b hp hu hn (z := i) (by omega) (by omega) l with ⟨_, q⟩ | ⟨_, _, q⟩
      · rw [q]; omega
      · omega
    refine tot_eq (B := 324) (bd a a1 a2 la) (bd b b1 b2 lb) (by rw [evD_4 a1 a2 la, evD_4 b1 b2 lb]) ?_ c
    intro i hi w
    rw [evD_cnt a1 a2 la, evD_cnt b1 b2 lb]
    have w1 := w.1
    have := h ((i : Int) - 4 * a).toNat (by omega)
    rw [show 4 * a + (((i : Int) - 4 * a).toNat : Int) = i by omega] at this
    exact this
/-- .. told by counts of pins -/
noncomputable def pcO (β : ga_S) (CN : Int → Int) (x g c : Int) : Int := sz (fun k => tv (gB β (4 * x + k) = g ∧ β.1 69 (4 * x + k) ≠ -1 ∧ CN (40 * (x / 30) + β.1 69 (4 * x + k)) = c)) 4
theorem dcC_no {β : ga_S} {RN : Int → Int} (hp : pinB β) (hu : usdB β) (hg : grpB β) (hn : okN β RN) {x g : Int} (x1 : 0 ≤ x) (x2 : x < 60) (lx : bL β x) (g1 : 0 ≤ g) (g2 : g < 4) : dcC β RN x ((-1 + 1) * 4 + g) = pO β x g (-1) := by
  unfold dcC pO
  apply sz_congr
  intro k hk
  have l : bL β ((4 * x + (k : Int)) / 4) := by rw [show (4 * x + (k : Int)) / 4 = x by omega]; exact lx
  have gg := hg (4 * x + k) (by omega) (by omega) l
  apply tv_congr
  unfold dcode
  rw [enc4 gg ⟨g1, g2⟩]
  rcases nC_b hp hu hn (z := 4 * x + k) (by omega) (by omega) l with ⟨q1, q2⟩ | ⟨q1, q2, q3⟩
  · rw [q1, q2]; exact ⟨fun w => ⟨w.2, rfl⟩, fun w => ⟨rfl, w.1⟩⟩
  · exact ⟨fun w => by have := w.1; omega, fun w => absurd w.2 q1⟩
theorem dcC_yes {β : ga_S} {RN : Int → Int} (hp : pinB β) (hu : usdB β) (hg : grpB β) (hn : okN β RN) {x g c : Int} (x1 : 0 ≤ x) (x2 : x < 60) (lx : bL β x) (g1 : 0 ≤ g) (g2 : g < 4) (c1 : 0 ≤ c) : dcC β RN x ((c + 1) * 4 + g) = pcO β RN x g c := by
  unfold dcC pcO
  apply sz_congr
  intro k hk
  have l : bL β ((4 * x + (k : Int)) / 4) := by rw [show (4 * x + (k : Int)) / 4 = x by omega]; exact lx
  have gg := hg (4 * x + k) (by omega) (by omega) l
  apply tv_congr
  unfold dcode
  rw [enc4 gg ⟨g1, g2⟩]
  rcases nC_b hp hu hn (z := 4 * x + k) (by omega) (by omega) l with ⟨q1, q2⟩ | ⟨q1, q2, q3⟩
  · exact ⟨fun w => by have := w.1; omega, fun w => absurd q1 w.2.1⟩
  · rw [show (4 * x + (k : Int)) / 120 = x / 30 by omega] at q2
    rw [q2]
    exact ⟨fun w => ⟨w.2, q1, by omega⟩, fun w => ⟨by omega, w.1⟩⟩
