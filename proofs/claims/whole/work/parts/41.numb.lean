-- numberings of classes
noncomputable def nF (L : Int → Prop) (R : Int → Int) (T : Nat) : Int := sz (fun x => tv (L x ∧ ∀ u : Int, 0 ≤ u → u < x → L u → R u ≠ R x)) T
/-- C numbers the classes of R among those of L -/
def numb (T : Nat) (L : Int → Prop) (C : Int → Int) (P : Int) (R : Int → Int) : Prop := (∀ x : Int, 0 ≤ x → x < T → ¬ L x → C x = -1) ∧ (∀ x : Int, 0 ≤ x → x < T → L x → 0 ≤ C x ∧ C x < P) ∧ (∀ x u : Int, 0 ≤ x → x < T → 0 ≤ u → u < T → L x → L u → (C x = C u ↔ R x = R u)) ∧ P = nF L R T ∧ P ≤ T
theorem numb_spl {T : Nat} {L : Int → Prop} {old C R : Int → Int} {E : Int → Int → Prop} {P : Int} (hL : ∀ x : Int, 0 ≤ x → x < T → (old x ≠ -1 ↔ L x)) (hE : ∀ x u : Int, 0 ≤ x → x < T → 0 ≤ u → u < T → L x → L u → (E x u ↔ R x = R u)) (h : spl old E T C P) : numb T L C P R := by
  refine ⟨fun x a b c => ?_, fun x a b c => ?_, fun x u a b c d e f => ?_, ?_, h.le⟩
  · exact h.out x a b (Classical.not_not.mp (fun z => c ((hL x a b).mp z)))
  · exact h.rng x a b ((hL x a b).mpr c)
  · rw [h.eqv x u a b c d ((hL x a b).mpr e) ((hL u c d).mpr f)]
    exact hE x u a b c d e f
  · rw [h.cnt, Int.toNat_natCast]
    refine sz_congr (fun i hi => tv_congr ?_)
    constructor
    · rintro ⟨q1, q2⟩
      have l1 := (hL i (by omega) (by omega)).mp q1
      exact ⟨l1, fun u a b c d => q2 u a b ((hL u a (by omega)).mpr c) ((hE u i a (by omega) (by omega) (by omega) c l1).mpr d)⟩
    · rintro ⟨q1, q2⟩
      refine ⟨(hL i (by omega) (by omega)).mpr q1, fun u a b c d => ?_⟩
      have l2 := (hL u a (by omega)).mp c
      exact q2 u a b l2 ((hE u i a (by omega) (by omega) (by omega) l2 q1).mp d)
theorem numb_in {T : Nat} {L : Int → Prop} {C R : Int → Int} {P : Int} (h : numb T L C P R) {x : Int} (h1 : 0 ≤ x) (h2 : x < T) : C x ≠ -1 ↔ L x := by
  constructor
  · intro q
    exact Classical.not_not.mp (fun z => q (h.1 x h1 h2 z))
  · intro q
    have := h.2.1 x h1 h2 q
    omega
theorem numb_rng {T : Nat} {L : Int → Prop} {C R : Int → Int} {P : Int} (h : numb T L C P R) {x : Int} (h1 : 0 ≤ x) (h2 : x < T) : -1 ≤ C x ∧ C x < T := by
  by_cases q : L x
  · have := h.2.1 x h1 h2 q
    have := h.2.2.2.2
    omega
  · rw [h.1 x h1 h2 q]
    omega
theorem cnt_inv1 {Q1 Q2 : Int → Prop} {a b : Int → Int} {n : Nat} (h : ∀ z w : Int, (Q1 z ∨ Q2 z) → (Q1 w ∨ Q2 w) → (a z = a w ↔ b z = b w)) (g : ∀ c, sz (fun z => tv (Q1 z ∧ a z = c)) n = sz (fun z => tv (Q2 z ∧ a z = c)) n) (c : Int) : sz (fun z => tv (Q1 z ∧ b z = c)) n = sz (fun z => tv (Q2 z ∧ b z = c)) n := by
  by_cases q : ∃ z : Int, (Q1 z ∨ Q2 z) ∧ b z = c
  · obtain ⟨z, q1, q2⟩ := q
    have e : ∀ Q : Int → Prop, (∀ w, Q w → Q1 w ∨ Q2 w) → sz (fun z => tv (Q z ∧ b z = c)) n = sz (fun w => tv (Q w ∧ a w = a z)) n := fun Q hQ =>
      sz_congr (fun i _ => tv_congr ⟨fun ⟨x1, x2⟩ => ⟨x1, (h i z (hQ i x1) q1).mpr (by rw [x2, q2])⟩, fun ⟨x1, x2⟩ => ⟨x1, by rw [← q2]; exact (h i z (hQ i x1) q1).mp x2⟩⟩)
    rw [e Q1 (fun _ => Or.inl), e Q2 (fun _ => Or.inr)]
    exact g (a z)
  · have e : ∀ Q : Int → Prop, (∀ w, Q w → Q1 w ∨ Q2 w) → sz (fun z => tv (Q z ∧ b z = c)) n = sz (fun _ => 0) n := fun Q hQ =>
      sz_congr (fun i _ => tvz (fun ⟨x1, x2⟩ => q ⟨i, hQ i x1, x2⟩))
    rw [e Q1 (fun _ => Or.inl), e Q2 (fun _ => Or.inr)]
theorem cnt_inv {Q1 Q2 : Int → Prop} {a b : Int → Int} {n : Nat} (h : ∀ z w : Int, (Q1 z ∨ Q2 z) → (Q1 w ∨ Q2 w) → (a z = a w ↔ b z = b w)) : (∀ c, sz (fun z => tv (Q1 z ∧ a z = c)) n = sz (fun z => tv (Q2 z ∧ a z = c)) n) ↔ (∀ c, sz (fun z => tv (Q1 z ∧ b z = c)) n = sz (fun z => tv (Q2 z ∧ b z = c)) n) :=
  ⟨fun g => cnt_inv1 h g, fun g => cnt_inv1 (fun z w q1 q2 => (h z w q1 q2).symm) g⟩
/-- likeness of two devices, of two nets, when nets and devices are numbered so -/
def lkD (β : ga_S) (RN : Int → Int) (x u : Int) : Prop := ∀ c, sz (fun z => tv (evD β x z ∧ dcode β RN z = c)) 240 = sz (fun z => tv (evD β u z ∧ dcode β RN z = c)) 240
def lkN (β : ga_S) (RD : Int → Int) (y v : Int) : Prop := sz (fun z => tv (evN β y z)) 240 = sz (fun z => tv (evN β v z)) 240 ∧ ∀ c, sz (fun z => tv (evN β y z ∧ ncode β RD z = c)) 240 = sz (fun z => tv (evN β v z ∧ ncode β RD z = c)) 240
/-- two numberings say the same of those of L -/
def nEq (T : Nat) (L : Int → Prop) (C R : Int → Int) : Prop := ∀ x u : Int, 0 ≤ x → x < T → 0 ≤ u → u < T → L x → L u → (C x = C u ↔ R x = R u)
def grpB (β : ga_S) : Prop := ∀ z : Int, 0 ≤ z → z < 240 → bL β (z / 4) → 0 ≤ gB β z ∧ gB β z < 4
def usdB (β : ga_S) : Prop := ∀ z : Int, 0 ≤ z → z < 240 → bL β (z / 4) → β.1 69 z ≠ -1 → bU β (40 * (z / 120) + β.1 69 z)
theorem enc4 {a b g h : Int} (h1 : 0 ≤ g ∧ g < 4) (h2 : 0 ≤ h ∧ h < 4) : a * 4 + g = b * 4 + h ↔ a = b ∧ g = h := by omega
theorem nC_inv {β : ga_S} {C R : Int → Int} (hp : pinB β) (hu : usdB β) (hn : nEq 80 (bU β) C R) (hr : ∀ y : Int, 0 ≤ y → y < 80 → bU β y → 0 ≤ C y ∧ 0 ≤ R y) {z w : Int} (z1 : 0 ≤ z) (z2 : z < 240) (z3 : bL β (z / 4)) (w1 : 0 ≤ w) (w2 : w < 240) (w3 : bL β (w / 4)) : nC β C z = nC β C w ↔ nC β R z = nC β R w := by
  have pz := hp z z1 z2 z3
  have pw := hp w w1 w2 w3
  unfold nC
  by_cases q1 : β.1 69 z = -1
  · by_cases q2 : β.1 69 w = -1
    · rw [if_pos q1, if_pos q2, if_pos q1, if_pos q2]
    · have := hr _ (by omega) (by omega) (hu w w1 w2 w3 q2)
      rw [if_pos q1, if_neg q2, if_pos q1, if_neg q2]
      omega
  · have hz := hu z z1 z2 z3 q1
    have := hr _ (by omega) (by omega) hz
    by_cases q2 : β.1 69 w = -1
    · rw [if_neg q1, if_pos q2, if_neg q1, if_pos q2]
      omega
    · rw [if_neg q1, if_neg q2, if_neg q1, if_neg q2]
      exact hn _ _ (by omega) (by omega) (by omega) (by omega) hz (hu w w1 w2 w3 q2)
theorem lkD_inv {β : ga_S} {C R : Int → Int} (hp : pinB β) (hu : usdB β) (hg : grpB β) (hn : nEq 80 (bU β) C R) (hr : ∀ y : Int, 0 ≤ y → y < 80 → bU β y → 0 ≤ C y ∧ 0 ≤ R y) {x u : Int} (x1 : 0 ≤ x) (x2 : x < 60) (u1 : 0 ≤ u) (u2 : u < 60) : lkD β C x u ↔ lkD β R x u := by
  refine cnt_inv (fun z w q1 q2 => ?_)
  have z3 : 0 ≤ z ∧ z < 240 ∧ bL β (z / 4) := by rcases q1 with ⟨e1, e2⟩ | ⟨e1, e2⟩ <;> exact ⟨by omega, by omega, by rw [e1]; exact e2⟩
  have w3 : 0 ≤ w ∧ w < 240 ∧ bL β (w / 4) := by rcases q2 with ⟨e1, e2⟩ | ⟨e1, e2⟩ <;> exact ⟨by omega, by omega, by rw [e1]; exact e2⟩
  unfold dcode
  rw [enc4 (hg z z3.1 z3.2.1 z3.2.2) (hg w w3.1 w3.2.1 w3.2.2), enc4 (hg z z3.1 z3.2.1 z3.2.2) (hg w w3.1 w3.2.1 w3.2.2)]
  have := nC_inv hp hu hn hr z3.1 z3.2.1 z3.2.2 w3.1 w3.2.1 w3.2.2
  constructor
  · rintro ⟨e1, e2⟩
    have := this.mp (by omega)
    exact ⟨by omega, e2⟩
  · rintro ⟨e1, e2⟩
    have := this.mpr (by omega)
    exact ⟨by omega, e2⟩
theorem lkN_inv {β : ga_S} {C R : Int → Int} (hg : grpB β) (hn : nEq 60 (bL β) C R) {y v : Int} : lkN β C y v ↔ lkN β R y v := by
  refine and_congr_right (fun _ => cnt_inv (fun z w q1 q2 => ?_))
  have z3 : 0 ≤ z ∧ z < 240 ∧ bL β (z / 4) := by rcases q1 with e | e <;> exact ⟨e.1, e.2.1, e.2.2.1⟩
  have w3 : 0 ≤ w ∧ w < 240 ∧ bL β (w / 4) := by rcases q2 with e | e <;> exact ⟨e.1, e.2.1, e.2.2.1⟩
  unfold ncode
  rw [enc4 (hg z z3.1 z3.2.1 z3.2.2) (hg w w3.1 w3.2.1 w3.2.2), enc4 (hg z z3.1 z3.2.1 z3.2.2) (hg w w3.1 w3.2.1 w3.2.2)]
  exact and_congr_left' (hn _ _ (by omega) (by omega) (by omega) (by omega) z3.2.2 w3.2.2)
/-- the sum of a device's events is 4 -/
theorem evD_4 {β : ga_S} {x : Int} (h1 : 0 ≤ x) (h2 : x < 60) (hl : bL β x) : sz (fun z => tv (evD β x z)) 240 = 4 := by
  have key : ∀ e : Nat, sz (fun z => tv (evD β x z)) e = if (e : Int) ≤ 4 * x then 0 else if (e : Int) ≤ 4 * x + 4 then e - 4 * x else 4 := by
    intro e
    induction e with
    | zero => rw [if_pos (by omega)]; rfl
    | succ e ih =>
      rw [sz_s, ih]
      by_cases q : (e : Int) / 4 = x
      · rw [tv1 ⟨q, hl⟩]
        by_cases q2 : (e : Int) ≤ 4 * x
        · rw [if_pos q2, if_neg (by omega), if_pos (by omega)]; omega
        · rw [if_neg q2, if_pos (by omega), if_neg (by omega), if_pos (by omega)]; omega
      · rw [tvz (fun z => q z.1)]
        by_cases q2 : (e : Int) ≤ 4 * x
        · rw [if_pos q2, if_pos (by omega)]; rfl
        · have g1 : ¬ ((e + 1 : Nat) : Int) ≤ 4 * x := by omega
          have g2 : ¬ ((e + 1 : Nat) : Int) ≤ 4 * x + 4 := by omega
          by_cases q3 : (e : Int) ≤ 4 * x + 4
          · rw [if_neg q2, if_pos q3, if_neg g1, if_neg g2]; omega
          · rw [if_neg q2, if_neg q3, if_neg g1, if_neg g2]; rfl
  rw [key, if_neg (by omega)]
  by_cases q3 : ((240 : Nat) : Int) ≤ 4 * x + 4
  · rw [if_pos q3]; omega
  · rw [if_neg q3]
/-- one round of splitting, seen from any numbering -/
theorem numb_D {β : ga_S} {C CN R RN R2 C2 f cc : Int → Int} {P P2 : Int} (hp : pinB β) (hu : usdB β) (hg : grpB β) (h : numb 60 (bL β) C P R) (hn : nEq 80 (bU β) CN RN) (hr : ∀ y : Int, 0 ≤ y → y < 80 → bU β y → 0 ≤ CN y ∧ 0 ≤ RN y) (hd : DR β CN f cc 240) (h2 : ∀ x u : Int, 0 ≤ x → x < 60 → 0 ≤ u → u < 60 → bL β x → bL β u → (R2 x = R2 u ↔ R x = R u ∧ lkD β RN x u)) (hs : spl C (sE C f cc 4) 60 C2 P2) : numb 60 (bL β) C2 P2 R2 := by
  refine numb_spl (fun x a b => numb_in h a b) (fun x u a b c d e g => ?_) hs
  rw [h2 x u a b c d e g]
  unfold sE
  rw [rowI_sm (hd x a (by omega)) (hd u c (by omega)), h.2.2.1 x u a b c d e g, ← lkD_inv hp hu hg hn hr a (by omega) c (by omega), evD_4 a (by omega) e, evD_4 c (by omega) g]
  exact ⟨fun z => ⟨z.1, z.2.2⟩, fun z => ⟨z.1, rfl, z.2⟩⟩
theorem numb_N {β : ga_S} {C CD R RD R2 C2 f cc : Int → Int} {P P2 : Int} (hg : grpB β) (h : numb 80 (bU β) C P R) (hn : nEq 60 (bL β) CD RD) (hd : NR β CD f cc 240) (h2 : ∀ x u : Int, 0 ≤ x → x < 80 → 0 ≤ u → u < 80 → bU β x → bU β u → (R2 x = R2 u ↔ R x = R u ∧ lkN β RD x u)) (hs : spl C (sE C f cc 120) 80 C2 P2) : numb 80 (bU β) C2 P2 R2 := by
  refine numb_spl (fun x a b => numb_in h a b) (fun x u a b c d e g => ?_) hs
  rw [h2 x u a b c d e g]
  unfold sE
  rw [rowI_sm (hd x a (by omega)) (hd u c (by omega)), h.2.2.1 x u a b c d e g, ← lkN_inv hg hn]
  exact Iff.rfl
