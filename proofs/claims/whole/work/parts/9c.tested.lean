-- the match tested: class and reference answer alike
theorem te_mn {τ σ : ga_S} {N D M E : Nat} (hd : dsg τ σ N D M E) (hw : wfR σ N D M E) (hH : agH (τ.2 18) σ) (hk : τ.1 55 0 ≠ 0) (hk2 : σ.1 63 18 ≠ 0) (h56 : ∀ d : Int, 0 ≤ d → d < 30 → τ.1 56 d = σ.1 78 d) (h57 : ∀ d : Int, 0 ≤ d → d < 30 → τ.1 57 d = σ.1 78 (30 + d)) (h58 : ∀ n : Int, 0 ≤ n → n < 40 → τ.1 58 n = σ.1 79 n) (hp : prs σ (τ.1 59) N D M E) : mnP τ N D M E ↔ teP σ N D M E := by
  obtain ⟨_, hD, hD2, hNN, hN2, hk8, _⟩ := hw.1
  obtain ⟨_, hE, hE2, hM, hM2, _, _⟩ := hw.2.1
  obtain ⟨p1, p2, p3, p4⟩ := hp
  have a1 := hd.1
  have a2 := hd.2.1
  have uu := hd.2.2.2
  have a7 : ∀ d : Int, 0 ≤ d → d < D → τ.1 7 d = σ.1 68 d := fun d x y => by have := (a1.2.2.2.2.1 d x y).2.1; rw [show 30 * (0 : Int) + d = d by omega] at this; exact this
  have a5 : ∀ d : Int, 0 ≤ d → d < D → τ.1 5 d = σ.1 66 d := fun d x y => by have := (a1.2.2.2.2.1 d x y).1; rw [show 30 * (0 : Int) + d = d by omega] at this; exact this
  have a6 : ∀ d : Int, 0 ≤ d → d < D → τ.2 6 d = σ.2 67 d := fun d x y => by have := (a1.2.2.2.2.1 d x y).2.2; rw [show 30 * (0 : Int) + d = d by omega] at this; exact this
  have a14 : ∀ d : Int, 0 ≤ d → d < E → τ.1 14 d = σ.1 68 (30 + d) := fun d x y => by have := (a2.2.2.2.2.1 d x y).2.1; rw [show 30 * (1 : Int) + d = 30 + d by omega] at this; exact this
  have a13 : ∀ d : Int, 0 ≤ d → d < E → τ.2 13 d = σ.2 67 (30 + d) := fun d x y => by have := (a2.2.2.2.2.1 d x y).2.2; rw [show 30 * (1 : Int) + d = 30 + d by omega] at this; exact this
  have a3 : ∀ n : Int, 0 ≤ n → n < N → τ.1 3 n = σ.1 64 n := fun d x y => by have := a1.2.2.2.1 d x y; rw [show 40 * (0 : Int) + d = d by omega] at this; exact this
  have a10 : ∀ n : Int, 0 ≤ n → n < M → τ.1 10 n = σ.1 64 (40 + n) := fun d x y => by have := a2.2.2.2.1 d x y; rw [show 40 * (1 : Int) + d = 40 + d by omega] at this; exact this
  have a4 : ∀ n : Int, 0 ≤ n → n < N → (τ.1 4 n ≠ 0 ↔ uS σ 0 n) := fun n x y => (uu.1 n x y).trans (bU_uS hNN hN2 x y)
  have a11 : ∀ n : Int, 0 ≤ n → n < M → (τ.1 11 n ≠ 0 ↔ uS σ 1 n) := fun n x y => (uu.2 n x y).trans (bU_uS hM hM2 x y)
  have a8 : ∀ d k : Int, 0 ≤ d → d < D → 0 ≤ k → k < 4 → τ.1 8 (d * 4 + k) = σ.1 69 (4 * d + k) := fun d k x y k1 k2 => by
    have := a1.2.2.2.2.2 (d * 4 + k) (by omega) (by omega)
    rw [show 120 * (0 : Int) + (d * 4 + k) = 4 * d + k by omega] at this
    exact this
  have a17 : ∀ d k : Int, 0 ≤ d → d < D → 0 ≤ k → k < 4 → τ.1 17 (τ.1 5 d * 4 + k) = gB σ (4 * d + k) := fun d k x y k1 k2 => by
    have h8 := hk8 d x (by omega)
    rw [gB_at k1 k2, a5 d x y]
    exact (hd.2.2.1 _ (by omega) (by omega)).1
  have lv0 : ∀ d : Int, 0 ≤ d → d < D → (bL σ d ↔ σ.1 68 d = 0) := fun d x y => by rw [bL_0 hD x (by omega)]; exact ⟨fun w => w.2, fun w => ⟨y, w⟩⟩
  have lv1 : ∀ d : Int, 0 ≤ d → d < E → (bL σ (30 + d) ↔ σ.1 68 (30 + d) = 0) := fun d x y => by rw [bL_1 hE x (by omega)]; exact ⟨fun w => w.2, fun w => ⟨y, w⟩⟩
  have LD : lnC σ 30 = sz (fun d => tv (σ.1 68 d = 0)) D := by
    rw [lnC_D hD hD2]
    unfold lnC
    exact sz_congr (fun i hi => tv_congr (lv0 i (by omega) (by omega)))
  have LE : liC σ 1 E = sz (fun d => tv (σ.1 68 (30 + d) = 0)) E := rfl
  have UC : ∀ s : Int, ∀ X : Nat, usC σ s X = sz (fun n => tv (uS σ s n)) X := fun _ _ => rfl
  -- a pair's pins, slot by slot, as the class asks
  have PA : ∀ d : Int, 0 ≤ d → d < D → σ.1 68 d = 0 → 0 ≤ σ.1 78 d → σ.1 78 d < E → (paP τ d ↔ agP σ d (30 + σ.1 78 d) ∧ ∀ k : Int, 0 ≤ k → k < 4 → pO σ d (gB σ (4 * d + k)) (σ.1 69 (4 * d + k)) = pO σ (30 + σ.1 78 d) (gB σ (4 * d + k)) (if σ.1 69 (4 * d + k) = -1 then -1 else σ.1 79 (σ.1 69 (4 * d + k)))) := by
    intro d d1 d2 g e1 e2
    unfold paP agP
    have h8 := hk8 d d1 (by omega)
    rw [h56 d d1 (by omega), a6 d d1 d2, a13 _ e1 e2, a5 d d1 d2, hH _ h8.1 h8.2]
    refine and_congr_right (fun _ => forall_congr' (fun k => ?_))
    constructor
    · intro h k1 k2
      have := h k1 k2
      rw [← a5 d d1 d2, a17 d k d1 d2 k1 k2, a8 d k d1 d2 k1 k2, pnO_2 hd d1 d2, pnO_9 hd e1 e2] at this
      rw [this]
      have pr := hw.2.2.1 (4 * d + k) (by omega) (by omega)
      congr 1
      by_cases w : σ.1 69 (4 * d + k) = -1
      · rw [if_pos w, if_pos w]
      · rw [if_neg w, if_neg w, h58 _ (by omega) (by omega)]
    · intro h k1 k2
      have := h k1 k2
      rw [← a5 d d1 d2, a17 d k d1 d2 k1 k2, a8 d k d1 d2 k1 k2, pnO_2 hd d1 d2, pnO_9 hd e1 e2, this]
      have pr := hw.2.2.1 (4 * d + k) (by omega) (by omega)
      congr 1
      by_cases w : σ.1 69 (4 * d + k) = -1
      · rw [if_pos w, if_pos w]
      · rw [if_neg w, if_neg w, h58 _ (by omega) (by omega)]
  constructor
  · rintro ⟨_, m1, m2, m3, m4, m5⟩
    have E1 : ∀ d : Int, 0 ≤ d → d < D → σ.1 68 d = 0 → 0 ≤ σ.1 78 d ∧ σ.1 78 d < E ∧ σ.1 78 (30 + σ.1 78 d) = d ∧ σ.1 66 d = σ.1 66 (30 + σ.1 78 d) ∧ σ.1 68 (30 + σ.1 78 d) = 0 := by
      intro d d1 d2 g
      have := m1 d d1 d2 (by rw [a7 d d1 d2]; exact g)
      rw [h56 d d1 (by omega)] at this
      rcases p1 d d1 (by omega) with q | ⟨q1, q2, q3, q4, q5⟩
      · exact absurd q this.1
      · exact ⟨q2, q3, q4, q5, by rw [← a14 _ q2 q3]; exact this.2⟩
    have E2 : ∀ e : Int, 0 ≤ e → e < E → σ.1 68 (30 + e) = 0 → 0 ≤ σ.1 78 (30 + e) ∧ σ.1 78 (30 + e) < D ∧ σ.1 68 (σ.1 78 (30 + e)) = 0 ∧ σ.1 78 (σ.1 78 (30 + e)) = e := by
      intro e e1 e2 g
      have := m2 e e1 e2 (by rw [a14 e e1 e2]; exact g)
      rw [h57 e e1 (by omega)] at this
      rcases p2 e e1 (by omega) with q | ⟨q1, q2, q3, q4⟩
      · exact absurd q this.1
      · exact ⟨q2, q3, by rw [← a7 _ q2 q3]; exact this.2, q4⟩
    have U1 : ∀ n : Int, 0 ≤ n → n < N → uS σ 0 n → 0 ≤ σ.1 79 n ∧ σ.1 79 n < M ∧ τ.1 59 (σ.1 79 n) = n ∧ uS σ 1 (σ.1 79 n) ∧ σ.1 64 n = σ.1 64 (40 + σ.1 79 n) := by
      intro n n1 n2 u
      have := m3 n n1 n2 ((a4 n n1 n2).mpr u)
      rw [h58 n n1 (by omega)] at this
      rcases p3 n n1 (by omega) with q | ⟨q1, q2, q3, q4⟩
      · exact absurd q this.1
      · exact ⟨q2, q3, q4, (a11 _ q2 q3).mp this.2.1, by have := this.2.2; rw [a3 n n1 n2, a10 _ q2 q3] at this; exact this⟩
    have U2 : ∀ m : Int, 0 ≤ m → m < M → uS σ 1 m → 0 ≤ τ.1 59 m ∧ τ.1 59 m < N ∧ uS σ 0 (τ.1 59 m) ∧ σ.1 79 (τ.1 59 m) = m := by
      intro m m1' m2' u
      have := m4 m m1' m2' ((a11 m m1' m2').mpr u)
      rcases p4 m m1' (by omega) with q | ⟨q1, q2, q3, q4⟩
      · exact absurd q this.1
      · exact ⟨q2, q3, (a4 _ q2 q3).mp this.2.1, q4⟩
    refine ⟨hk2, fun d d1 d2 g => ?_, ?_, fun n n1 n2 u => ?_, ?_⟩
    · have e := E1 d d1 d2 g
      have pa := (PA d d1 d2 g e.1 e.2.1).mp (m5 d d1 d2 (by rw [a7 d d1 d2]; exact g))
      exact ⟨by omega, e.2.2.2.2, e.2.2.2.1, pa.1⟩
    · rw [LD, LE]
      exact sz_bij (fun d => σ.1 78 d) (fun e => σ.1 78 (30 + e)) (fun i i1 i2 g => by have e := E1 i i1 i2 g; exact ⟨e.1, e.2.1, e.2.2.2.2, e.2.2.1⟩) (fun j j1 j2 g => by have e := E2 j j1 j2 g; exact ⟨e.1, e.2.1, e.2.2.1, e.2.2.2⟩)
    · have e := U1 n n1 n2 u
      refine ⟨by omega, e.2.2.2.1, e.2.2.2.2, fun d d1 d2 g => ?_⟩
      have ee := E1 d d1 d2 g
      have pa := (PA d d1 d2 g ee.1 ee.2.1).mp (m5 d d1 d2 (by rw [a7 d d1 d2]; exact g))
      have sn := slot_net hw d1 d2 ee.1 ee.2.1 ((lv0 d d1 d2).mpr g) ((lv1 _ ee.1 ee.2.1).mpr ee.2.2.2.2) ee.2.2.2.1 (τ.1 59) (fun n n1 n2 u => by have e := U1 n n1 n2 u; exact ⟨e.1, e.2.1, e.2.2.1⟩) (fun m m1 m2 u => by have e := U2 m m1 m2 u; exact ⟨_, e.1, e.2.1, e.2.2.1, e.2.2.2⟩)
      exact sn.mp pa.2 n n1 n2 u
    · rw [UC, UC]
      exact sz_bij (fun n => σ.1 79 n) (fun m => τ.1 59 m) (fun i i1 i2 g => by have e := U1 i i1 i2 g; exact ⟨e.1, e.2.1, e.2.2.2.1, e.2.2.1⟩) (fun j j1 j2 g => by have e := U2 j j1 j2 g; exact ⟨e.1, e.2.1, e.2.2.1, e.2.2.2⟩)
  · rintro ⟨_, t1, t2, t3, t4⟩
    have E1 : ∀ d : Int, 0 ≤ d → d < D → σ.1 68 d = 0 → 0 ≤ σ.1 78 d ∧ σ.1 78 d < E ∧ σ.1 78 (30 + σ.1 78 d) = d ∧ σ.1 66 d = σ.1 66 (30 + σ.1 78 d) ∧ σ.1 68 (30 + σ.1 78 d) = 0 := by
      intro d d1 d2 g
      have := t1 d d1 d2 g
      rcases p1 d d1 (by omega) with q | ⟨q1, q2, q3, q4, q5⟩
      · exact absurd q this.1
      · exact ⟨q2, q3, q4, q5, this.2.1⟩
    rw [LD, LE] at t2
    rw [UC, UC] at t4
    have E2 := sz_sur (fun d => σ.1 78 d) (fun e => σ.1 78 (30 + e)) (P := fun d => σ.1 68 d = 0) (Q := fun d => σ.1 68 (30 + d) = 0) (fun i i1 i2 g => by have e := E1 i i1 i2 g; exact ⟨e.1, e.2.1, e.2.2.2.2, e.2.2.1⟩) t2
    have U1 : ∀ n : Int, 0 ≤ n → n < N → uS σ 0 n → 0 ≤ σ.1 79 n ∧ σ.1 79 n < M ∧ τ.1 59 (σ.1 79 n) = n ∧ uS σ 1 (σ.1 79 n) ∧ σ.1 64 n = σ.1 64 (40 + σ.1 79 n) := by
      intro n n1 n2 u
      have := t3 n n1 n2 u
      rcases p3 n n1 (by omega) with q | ⟨q1, q2, q3, q4⟩
      · exact absurd q this.1
      · exact ⟨q2, q3, q4, this.2.1, this.2.2.1⟩
    have U2 := sz_sur (fun n => σ.1 79 n) (fun m => τ.1 59 m) (P := uS σ 0) (Q := uS σ 1) (fun i i1 i2 g => by have e := U1 i i1 i2 g; exact ⟨e.1, e.2.1, e.2.2.2.1, e.2.2.1⟩) t4
    refine ⟨hk, fun d d1 d2 g => ?_, fun e e1 e2 g => ?_, fun n n1 n2 u => ?_, fun m m1 m2 u => ?_, fun d d1 d2 g => ?_⟩
    · rw [a7 d d1 d2] at g
      have e := E1 d d1 d2 g
      rw [h56 d d1 (by omega), a14 _ e.1 e.2.1]
      exact ⟨by omega, e.2.2.2.2⟩
    · rw [a14 e e1 e2] at g
      obtain ⟨d, d1, d2, d3, d4⟩ := E2 e e1 e2 g
      have q := E1 d d1 d2 d3
      have d4' : σ.1 78 d = e := d4
      rw [h57 e e1 (by omega), ← d4', q.2.2.1, a7 d d1 d2]
      exact ⟨by omega, d3⟩
    · have u' := (a4 n n1 n2).mp u
      have e := U1 n n1 n2 u'
      rw [h58 n n1 (by omega), a3 n n1 n2, a10 _ e.1 e.2.1]
      exact ⟨by omega, (a11 _ e.1 e.2.1).mpr e.2.2.2.1, e.2.2.2.2⟩
    · have u' := (a11 m m1 m2).mp u
      obtain ⟨n, n1, n2, n3, n4⟩ := U2 m m1 m2 u'
      have e := U1 n n1 n2 n3
      have n4' : σ.1 79 n = m := n4
      rw [← n4', e.2.2.1, a10 _ e.1 e.2.1, a3 n n1 n2]
      exact ⟨by omega, (a4 n n1 n2).mpr n3, e.2.2.2.2.symm⟩
    · rw [a7 d d1 d2] at g
      have e := E1 d d1 d2 g
      refine (PA d d1 d2 g e.1 e.2.1).mpr ⟨(t1 d d1 d2 g).2.2.2, ?_⟩
      have sn := slot_net hw d1 d2 e.1 e.2.1 ((lv0 d d1 d2).mpr g) ((lv1 _ e.1 e.2.1).mpr e.2.2.2.2) e.2.2.2.1 (τ.1 59) (fun n n1 n2 u => by have e := U1 n n1 n2 u; exact ⟨e.1, e.2.1, e.2.2.1⟩) (fun m m1 m2 u => by obtain ⟨n, n1, n2, n3, n4⟩ := U2 m m1 m2 u; exact ⟨n, n1, n2, n3, n4⟩)
      exact sn.mpr (fun n n1 n2 u => (t3 n n1 n2 u).2.2.2 d d1 d2 g)
