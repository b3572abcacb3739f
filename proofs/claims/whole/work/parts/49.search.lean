-- the search, told without the machine
noncomputable def lnC (β : ga_S) (e : Nat) : Int := sz (fun d => tv (bL β d)) e
noncomputable def ln (β : ga_S) (i : Int) : Int := lstF (fun d => bL β d ∧ lnC β d.toNat = i) 30
noncomputable def kV (β : ga_S) (x n : Int) : Int := sz (fun k => tv (β.1 69 (4 * x + k) = n) * pw8 (gB β (4 * x + k))) 4
noncomputable def dv (β : ga_S) (ch : Int → Int) (i x : Int) : Int := if x < 40 then ln β i else 30 + ch i
def SE (β : ga_S) (ch : Int → Int) (p x y : Int) : Prop := β.1 64 x = β.1 64 y ∧ ∀ i : Int, 0 ≤ i → i < p → kV β (dv β ch i x) (x % 40) = kV β (dv β ch i y) (y % 40)
def EV (β : ga_S) (ch : Int → Int) (p : Int) : Prop := ∀ x : Int, 0 ≤ x → x < 80 → bU β x → sz (fun n => tv (bU β n ∧ SE β ch p x n)) 40 = sz (fun n => tv (bU β (40 + n) ∧ SE β ch p x (40 + n))) 40
def sT (s1 s2 : Int → Int) (x : Int) : Int := if x < 40 then s1 x else s2 (x - 40)
def SR (β : ga_S) (ch : Int → Int) (p : Int) (s1 s2 : Int → Int) : Prop := (∀ x y : Int, 0 ≤ x → x < 80 → 0 ≤ y → y < 80 → bU β x → bU β y → (sT s1 s2 x = sT s1 s2 y ↔ SE β ch p x y)) ∧ ∀ x : Int, 0 ≤ x → x < 80 → bU β x → 0 ≤ sT s1 s2 x ∧ sT s1 s2 x < 41 + 4 * p
theorem SE_r {β : ga_S} {ch : Int → Int} {p x : Int} : SE β ch p x x := ⟨rfl, fun _ _ _ => rfl⟩
theorem SE_y {β : ga_S} {ch : Int → Int} {p x y : Int} (h : SE β ch p x y) : SE β ch p y x := ⟨h.1.symm, fun i a b => (h.2 i a b).symm⟩
theorem SE_t {β : ga_S} {ch : Int → Int} {p x y z : Int} (h : SE β ch p x y) (g : SE β ch p y z) : SE β ch p x z := ⟨h.1.trans g.1, fun i a b => (h.2 i a b).trans (g.2 i a b)⟩
theorem SE_cg {β : ga_S} {ch ch2 : Int → Int} {p : Int} (h : ∀ i : Int, 0 ≤ i → i < p → ch i = ch2 i) {x y : Int} : SE β ch p x y ↔ SE β ch2 p x y := by
  refine and_congr_right (fun _ => ?_)
  constructor
  · intro g i a b
    have := g i a b
    unfold dv at this ⊢
    rw [← h i a b]; exact this
  · intro g i a b
    have := g i a b
    unfold dv at this ⊢
    rw [h i a b]; exact this
theorem SE_s {β : ga_S} {ch : Int → Int} {p x y : Int} (hp : 0 ≤ p) : SE β ch (p + 1) x y ↔ SE β ch p x y ∧ kV β (dv β ch p x) (x % 40) = kV β (dv β ch p y) (y % 40) := by
  constructor
  · intro h
    exact ⟨⟨h.1, fun i a b => h.2 i a (by omega)⟩, h.2 p hp (by omega)⟩
  · rintro ⟨h, g⟩
    refine ⟨h.1, fun i a b => ?_⟩
    rcases Int.lt_or_le i p with q | q
    · exact h.2 i a q
    · rw [show i = p by omega]; exact g
theorem EV_cg {β : ga_S} {ch ch2 : Int → Int} {p : Int} (h : ∀ i : Int, 0 ≤ i → i < p → ch i = ch2 i) (g : EV β ch p) : EV β ch2 p := by
  intro x a b c
  have := g x a b c
  rw [sz_congr (f := fun n => tv (bU β n ∧ SE β ch p x n)) (g := fun n => tv (bU β n ∧ SE β ch2 p x n)) (fun i _ => tv_congr (and_congr_right (fun _ => SE_cg h))), sz_congr (f := fun n => tv (bU β (40 + n) ∧ SE β ch p x (40 + n))) (g := fun n => tv (bU β (40 + n) ∧ SE β ch2 p x (40 + n))) (fun i _ => tv_congr (and_congr_right (fun _ => SE_cg h)))] at this
  exact this
theorem SR_cg {β : ga_S} {ch ch2 : Int → Int} {p : Int} {s1 s2 : Int → Int} (h : ∀ i : Int, 0 ≤ i → i < p → ch i = ch2 i) (g : SR β ch p s1 s2) : SR β ch2 p s1 s2 :=
  ⟨fun x y a b c d e f => (g.1 x y a b c d e f).trans (SE_cg h), g.2⟩
theorem kV_b {β : ga_S} {x n : Int} : 0 ≤ kV β x n ∧ kV β x n < 4096 := by
  have := LK_sum (pin := fun k => β.1 69 (4 * x + k)) (g := fun k => gB β (4 * x + k)) (n := n) 4
  unfold kV
  exact ⟨this.1, by have := this.2; omega⟩
theorem sz_posi {f : Int → Int} : ∀ {n : Nat}, (∀ i : Int, 0 ≤ f i) → (0 < sz f n ↔ ∃ i : Int, 0 ≤ i ∧ i < n ∧ 0 < f i)
  | 0, _ => ⟨fun h => absurd h (Int.lt_irrefl _), fun ⟨i, a, b, _⟩ => by omega⟩
  | n + 1, h => by
    rw [sz_s]
    have ih := sz_posi (n := n) h
    have hn := h n
    have h0 := sz_nn h n
    constructor
    · intro g
      by_cases q : 0 < f n
      · exact ⟨n, by omega, by omega, q⟩
      · obtain ⟨i, a, b, c⟩ := ih.mp (by omega)
        exact ⟨i, a, by omega, c⟩
    · rintro ⟨i, a, b, c⟩
      by_cases q : i = n
      · rw [q] at c; omega
      · have := ih.mpr ⟨i, a, by omega, c⟩
        omega
theorem kV_pos {β : ga_S} {x n : Int} : 0 < kV β x n ↔ ∃ k : Int, 0 ≤ k ∧ k < 4 ∧ β.1 69 (4 * x + k) = n := by
  unfold kV
  rw [sz_posi (fun i => Int.mul_nonneg (tv_le (p := β.1 69 (4 * x + i) = n)).1 (by have := pw8_b (gB β (4 * x + i)); omega))]
  constructor
  · rintro ⟨i, a, b, c⟩
    refine ⟨i, a, b, ?_⟩
    by_cases q : β.1 69 (4 * x + i) = n
    · exact q
    · rw [tvz q, Int.zero_mul] at c
      omega
  · rintro ⟨i, a, b, c⟩
    refine ⟨i, a, b, ?_⟩
    rw [tv1 c, Int.one_mul]
    have := pw8_b (gB β (4 * x + i))
    omega
theorem bij {srt pin g nets keys : Int → Int} {c : Nat} (h : LK srt pin g nets keys c 4) {U F : Int → Prop} (hu : ∀ k : Int, 0 ≤ k → k < 4 → pin k ≠ -1 → U (pin k) ∧ 0 ≤ pin k ∧ pin k < 40) : sz (fun n => tv (U n ∧ (∃ k : Int, 0 ≤ k ∧ k < 4 ∧ pin k = n) ∧ F n)) 40 = sz (fun i => tv (F (nets i))) c := by
  obtain ⟨h0, h1, h2, h3, h4⟩ := h
  have a : sz (fun n => tv (U n ∧ (∃ k : Int, 0 ≤ k ∧ k < 4 ∧ pin k = n) ∧ F n)) 40 ≤ sz (fun i => tv (F (nets i))) c := by
    refine sz_img (m := nets) (fun j j1 j2 j3 => ?_)
    obtain ⟨_, ⟨k, k1, k2, k3⟩, f⟩ := j3
    obtain ⟨i, i1, i2, i3⟩ := h3 k k1 k2 (by omega)
    exact ⟨i, i1, i2, by rw [i3, k3]; exact f, by rw [i3, k3]⟩
  have b : sz (fun i => tv (F (nets i))) c ≤ sz (fun n => tv (U n ∧ (∃ k : Int, 0 ≤ k ∧ k < 4 ∧ pin k = n) ∧ F n)) 40 := by
    refine sz_img (m := fun n => lstF (fun i => nets i = n) c) (fun i i1 i2 f => ?_)
    obtain ⟨n1, k, k1, k2, k3⟩ := h1 i i1 i2
    have u := hu k k1 k2 (by rw [k3]; exact n1)
    refine ⟨nets i, by omega, by omega, ⟨by rw [← k3]; exact u.1, ⟨k, k1, k2, k3⟩, f⟩, ?_⟩
    rcases lstF_is (fun i2 => nets i2 = nets i) c with ⟨q1, q2⟩ | ⟨q1, q2, q3, q4⟩
    · exact absurd rfl (q2 i i1 i2)
    · exact h2 _ _ q1 q2 i1 i2 q3
  omega
theorem sz_fib {f : Int → Int} {B : Nat} : ∀ c : Nat, (∀ i : Int, 0 ≤ i → i < c → 0 ≤ f i ∧ f i < B) → sz (fun K => sz (fun i => tv (f i = K)) c) B = c
  | 0, _ => sz_zero B
  | c + 1, h => by
    have ih := sz_fib (f := f) (B := B) c (fun i a b => h i a (by omega))
    have hc := h c (by omega) (by omega)
    rw [sz_congr (g := fun K => sz (fun i => tv (f i = K)) c + tv (f c = K)) (fun i _ => sz_s _ c), sz_add, ih]
    have key : ∀ n : Nat, sz (fun K => tv (f c = K)) n = if f c < n then 1 else 0 := by
      intro n
      induction n with
      | zero => rw [if_neg (by omega)]; rfl
      | succ n ih =>
        rw [sz_s, ih]
        by_cases q : f c = n
        · rw [tv1 q, if_neg (by omega), if_pos (by omega)]; rfl
        · rw [tvz q]
          by_cases q2 : f c < n
          · rw [if_pos q2, if_pos (by omega)]; rfl
          · rw [if_neg q2, if_neg (by omega)]; rfl
    rw [key, if_pos hc.2]
    omega
