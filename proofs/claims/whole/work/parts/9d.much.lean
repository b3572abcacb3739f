-- run: what class and reference ask and list is the same
theorem sz_tail {P : Int → Prop} {a n : Nat} (h : a ≤ n) (h1 : ∀ i : Nat, a ≤ i → i < n → ¬ P i) : sz (fun i => tv (P i)) n = sz (fun i => tv (P i)) a := by
  obtain ⟨r, rfl⟩ : ∃ r, n = a + r := ⟨n - a, by omega⟩
  rw [sz_sh, sz_z (n := r) (fun i hi => tvz (by rw [show (a : Int) + i = ((a + i : Nat) : Int) by omega]; exact h1 _ (by omega) (by omega))), Int.add_zero]
section Much
variable {τ σ : ga_S} {N D M E : Nat}
theorem ag_7 (hd : dsg τ σ N D M E) {d : Int} (x : 0 ≤ d) (y : d < D) : τ.1 5 d = σ.1 66 d ∧ τ.1 7 d = σ.1 68 d ∧ τ.2 6 d = σ.2 67 d := by
  have := hd.1.2.2.2.2.1 d x y
  rw [show 30 * (0 : Int) + d = d by omega] at this
  exact this
theorem ag_14 (hd : dsg τ σ N D M E) {d : Int} (x : 0 ≤ d) (y : d < E) : τ.1 12 d = σ.1 66 (30 + d) ∧ τ.1 14 d = σ.1 68 (30 + d) ∧ τ.2 13 d = σ.2 67 (30 + d) := by
  have := hd.2.1.2.2.2.2.1 d x y
  rw [show 30 * (1 : Int) + d = 30 + d by omega] at this
  exact this
theorem lnC_7 (hd : dsg τ σ N D M E) (hw : wfR σ N D M E) : lnC σ 30 = sz (fun d => tv (τ.1 7 d = 0)) D := by
  obtain ⟨_, hD, hD2, _⟩ := hw.1
  rw [lnC_D hD hD2]
  unfold lnC
  apply sz_congr
  intro i hi
  rw [(ag_7 hd (d := i) (by omega) (by omega)).2.1]
  exact tv_congr ((bL_0 hD (by omega) (by omega)).trans ⟨fun w => w.2, fun w => ⟨by omega, w⟩⟩)
theorem liC_14 (hd : dsg τ σ N D M E) : liC σ 1 E = sz (fun d => tv (τ.1 14 d = 0)) E := by
  unfold liC
  apply sz_congr
  intro i hi
  rw [(ag_14 hd (d := i) (by omega) (by omega)).2.1]
  rfl
theorem usC_4 (hd : dsg τ σ N D M E) (hw : wfR σ N D M E) : usC σ 0 N = sz (fun n => tv (τ.1 4 n ≠ 0)) N := by
  obtain ⟨_, _, _, hNN, hN2, _, _⟩ := hw.1
  apply sz_congr
  intro i hi
  exact tv_congr ((hd.2.2.2.1 i (by omega) (by omega)).trans (bU_uS hNN hN2 (by omega) (by omega))).symm
theorem usC_11 (hd : dsg τ σ N D M E) (hw : wfR σ N D M E) : usC σ 1 M = sz (fun n => tv (τ.1 11 n ≠ 0)) M := by
  obtain ⟨_, _, _, hM, hM2, _, _⟩ := hw.2.1
  apply sz_congr
  intro i hi
  exact tv_congr ((hd.2.2.2.2 i (by omega) (by omega)).trans (bU_uS hM hM2 (by omega) (by omega))).symm
theorem much_mc (hd : dsg τ σ N D M E) (hw : wfR σ N D M E) (hpt : ∀ y : Int, 0 ≤ y → y < 80 → -1 ≤ σ.1 64 y) : muchF τ N D M E ↔ mcP σ N M E := by
  obtain ⟨_, _, _, hNN, hN2, _, _⟩ := hw.1
  obtain ⟨_, _, _, hM, hM2, _, _⟩ := hw.2.1
  unfold muchF mcP
  rw [← lnC_7 hd hw, ← liC_14 hd, ← usC_4 hd hw, ← usC_11 hd hw, unev_bs hNN hN2 hM hM2 hd.1.2.2.2.1 hd.2.1.2.2.2.1 (Int.le_refl _), nmP_iff hNN hN2 hM hM2 hpt]
theorem mc_nmd (hw : wfR σ N D M E) (h : mcP σ N M E) : nmd σ ∧ utot σ := by
  obtain ⟨_, _, _, hNN, hN2, _, _⟩ := hw.1
  obtain ⟨_, _, _, hM, hM2, _, _⟩ := hw.2.1
  obtain ⟨h1, h2, h3⟩ := h
  refine ⟨⟨fun x x1 x2 px => ?_, fun y y1 y2 py => ?_⟩, ?_⟩
  · have := h3 x.toNat (by omega)
    unfold nmP at this
    rw [Int.toNat_of_nonneg x1] at this
    obtain ⟨i, i1, i2, i3⟩ := this px
    rw [show x / 40 = 0 by omega, show (1 : Int) - 0 = 1 by omega, hM, Int.toNat_natCast] at i2
    rw [show x / 40 = 0 by omega, show 40 * ((1 : Int) - 0) + i = 40 + i by omega] at i3
    refine ⟨i, i1, by omega, ⟨?_, by rw [i3]; exact px.2⟩, i3⟩
    rw [show (40 + i) / 40 = 1 by omega, show (40 + i) % 40 = i by omega, hM]
    exact i2
  · have := h3 (40 + y).toNat (by omega)
    unfold nmP at this
    rw [Int.toNat_of_nonneg (by omega)] at this
    obtain ⟨i, i1, i2, i3⟩ := this py
    rw [show (40 + y) / 40 = 1 by omega, show (1 : Int) - 1 = 0 by omega, hNN, Int.toNat_natCast] at i2
    rw [show (40 + y) / 40 = 1 by omega, show 40 * ((1 : Int) - 1) + i = i by omega] at i3
    refine ⟨i, i1, by omega, ⟨?_, by rw [i3]; exact py.2⟩, i3⟩
    rw [show i / 40 = 0 by omega, show i % 40 = i by omega, hNN]
    exact i2
  · unfold utot
    have e0 : sz (fun n => tv (bU σ n)) 40 = usC σ 0 N := by
      rw [sz_tail (P := bU σ) hN2 (fun i a b w => by
        have := w.1
        rw [show (i : Int) / 40 = 0 by omega, show (i : Int) % 40 = i by omega, hNN] at this
        omega)]
      apply sz_congr
      intro i hi
      have := bU_uS hNN hN2 (n := i) (by omega) (by omega)
      rw [show 40 * (0 : Int) + i = i by omega] at this
      exact tv_congr this
    have e1 : sz (fun n => tv (bU σ (40 + n))) 40 = usC σ 1 M := by
      rw [sz_tail (P := fun n => bU σ (40 + n)) hM2 (fun i a b w => by
        have := w.1
        rw [show (40 + (i : Int)) / 40 = 1 by omega, show (40 + (i : Int)) % 40 = i by omega, hM] at this
        omega)]
      apply sz_congr
      intro i hi
      have := bU_uS hM hM2 (n := i) (by omega) (by omega)
      rw [show 40 * (1 : Int) + i = 40 + i by omega] at this
      exact tv_congr this
    rw [e0, e1, h2]
theorem ok_0 (hd : dsg τ σ N D M E) : okC (τ.1 7) (τ.1 5) D = ofk σ 0 D := by
  funext k
  apply sz_congr
  intro i hi
  have a := ag_7 hd (d := i) (by omega) (by omega)
  rw [a.2.1, a.1, show 30 * (0 : Int) + i = i by omega]
theorem ok_1 (hd : dsg τ σ N D M E) : okC (τ.1 14) (τ.1 12) E = ofk σ 1 E := by
  funext k
  apply sz_congr
  intro i hi
  have a := ag_14 hd (d := i) (by omega) (by omega)
  rw [a.2.1, a.1, show 30 * (1 : Int) + i = 30 + i by omega]
theorem df3_is (hd : dsg τ σ N D M E) (hw : wfR σ N D M E) : df3 τ N D M E = (kdL (ofk σ 0 D) (ofk σ 1 E) 8 ++ tif (usC σ 0 N = usC σ 1 M) [] [(2, 0, usC σ 0 N, usC σ 1 M)]) ++ nmL (τ.1 3) (τ.1 10) N M 80 (-1) := by
  have h0 := ok_0 hd
  have h1 := ok_1 hd
  unfold df3
  rw [← h0, ← h1, usC_4 hd hw, usC_11 hd hw]
theorem cm_ns (hw : wfR σ N D M E) {C R gone o : Int → Int} {P s : Int} {X : Nat} (hs : s = 0 ∨ s = 1) (hX : σ.1 70 s = X) (hX2 : X ≤ 30) (hn : numb 60 (bL σ) C P R) (hg : ∀ d : Int, 0 ≤ d → d < X → gone d = σ.1 68 (30 * s + d)) {e : Int} (e1 : 0 ≤ e) (e2 : e < 60) (le : bL σ e) : cmF C gone s o X (C e) = nsR σ R s X e := by
  have r := hn.2.1 e e1 e2 le
  have P60 := hn.2.2.2.2
  unfold cmF
  rw [if_pos ⟨r.1, by omega⟩]
  unfold cmN nsR
  apply sz_congr
  intro d hd
  rw [hg d (by omega) (by omega), show s * 30 + (d : Int) = 30 * s + d by omega]
  apply tv_congr
  refine and_congr_right (fun g => ?_)
  have l : bL σ (30 * s + d) := ⟨by rw [show (30 * s + (d : Int)) / 30 = s by omega, hX]; omega, g⟩
  exact hn.2.2.1 (30 * s + d) e (by omega) (by omega) e1 e2 l le
theorem clL_P (hd : dsg τ σ N D M E) (hw : wfR σ N D M E) {R : Int → Int} {P : Int} (hn : numb 60 (bL σ) (τ.1 23) P R) {o1 o2 : Int → Int} (h36 : τ.1 36 = cmF (τ.1 23) (τ.1 7) 0 o1 D) (h37 : τ.1 37 = cmF (τ.1 23) (τ.1 14) 1 o2 E) : ∀ n : Nat, n ≤ 60 → clL σ (τ.1 23) (τ.1 36) (τ.1 37) n = clP σ R D E n := by
  obtain ⟨_, hD, hD2, _⟩ := hw.1
  obtain ⟨_, hE, hE2, _⟩ := hw.2.1
  intro n
  induction n with
  | zero => intro _; rfl
  | succ n ih =>
    intro hn60
    rw [clL_s, clP_s, ih (by omega)]
    congr 1
    rcases Classical.em (bL σ n) with l | l
    · have c0 : τ.1 36 (τ.1 23 n) = nsR σ R 0 D n := by
        rw [h36]
        exact cm_ns hw (Or.inl rfl) hD hD2 hn (fun d x y => by rw [(ag_7 hd x y).2.1, show 30 * (0 : Int) + d = d by omega]) (by omega) (by omega) l
      have c1 : τ.1 37 (τ.1 23 n) = nsR σ R 1 E n := by
        rw [h37]
        exact cm_ns hw (Or.inr rfl) hE hE2 hn (fun d x y => by rw [(ag_14 hd x y).2.1, show 30 * (1 : Int) + d = 30 + d by omega]) (by omega) (by omega) l
      rw [c0, c1]
      congr 1
      apply propext
      refine and_congr_left (fun _ => and_congr_right (fun _ => ?_))
      constructor
      · intro h u u1 u2 lu w
        exact h u u1 u2 lu ((hn.2.2.1 u n u1 (by omega) (by omega) (by omega) lu l).mpr w)
      · intro h u u1 u2 lu w
        exact h u u1 u2 lu ((hn.2.2.1 u n u1 (by omega) (by omega) (by omega) lu l).mp w)
    · rw [tif0 (fun w => l w.1.1), tif0 (fun w => l w.1.1)]
theorem more1 {P : Int → Prop} {n : Nat} {d : Int} (d1 : 0 ≤ d) (d2 : d < n) (hp : P d) : 1 < sz (fun b => tv (P b)) n ↔ ∃ b : Nat, b < n ∧ (b : Int) ≠ d ∧ P b := by
  have sp := sz_split (P := P) (T := fun b => d = b) n
  have e1 : sz (fun b => tv (P b ∧ d = b)) n = 1 := by
    have e2 : sz (fun b => tv (P b ∧ d = b)) n = sz (fun b => tv (P d ∧ d = b)) n := sz_congr (fun i hi => tv_congr ⟨fun w => ⟨hp, w.2⟩, fun w => ⟨by rw [← w.2]; exact hp, w.2⟩⟩)
    rw [e2, sz_pick d1 d2, tv1 hp]
  constructor
  · intro h
    obtain ⟨b, b1, b2, b3⟩ := sz_pos (P := fun b => P b ∧ ¬ d = b) (n := n) (by omega)
    exact ⟨b, b1, fun w => b3 w.symm, b2⟩
  · rintro ⟨b, b1, b2, b3⟩
    have := sz_ge1 (P := fun b => P b ∧ ¬ d = b) (n := n) (i := b) b1 ⟨b3, fun w => b2 w.symm⟩
    omega
theorem tried_is (hd : dsg τ σ N D M E) (hw : wfR σ N D M E) {R : Int → Int} {P : Int} (hn : numb 60 (bL σ) (τ.1 23) P R) {o1 : Int → Int} (h36 : τ.1 36 = cmF (τ.1 23) (τ.1 7) 0 o1 D) : sz (fun d => tv (τ.1 7 d = 0 ∧ 1 < τ.1 36 (τ.1 23 (0 * 30 + d)))) D = sz (fun a => tv (anP σ R a)) 30 := by
  obtain ⟨_, hD, hD2, _⟩ := hw.1
  rw [sz_tail (P := anP σ R) hD2 (fun i a b w => by have := ((bL_0 hD (i := i) (by omega) (by omega)).mp w.1).1; omega)]
  apply sz_congr
  intro d hd2
  apply tv_congr
  rw [(ag_7 hd (d := d) (by omega) (by omega)).2.1, show 0 * 30 + (d : Int) = d by omega]
  unfold anP
  have lv := bL_0 (σ := σ) hD (i := d) (by omega) (by omega)
  constructor
  · rintro ⟨g, m⟩
    have l : bL σ d := lv.mpr ⟨by omega, g⟩
    refine ⟨l, ?_⟩
    have c0 : τ.1 36 (τ.1 23 d) = nsR σ R 0 D d := by
      rw [h36]
      exact cm_ns hw (Or.inl rfl) hD hD2 hn (fun d x y => by rw [(ag_7 hd x y).2.1, show 30 * (0 : Int) + d = d by omega]) (by omega) (by omega) l
    rw [c0] at m
    unfold nsR at m
    obtain ⟨b, b1, b2, b3, b4⟩ := (more1 (P := fun b => σ.1 68 (30 * 0 + b) = 0 ∧ R (30 * 0 + b) = R d) (n := D) (d := d) (by omega) (by omega) ⟨by rw [show 30 * (0 : Int) + d = d by omega]; exact g, by rw [show 30 * (0 : Int) + d = d by omega]⟩).mp m
    rw [show 30 * (0 : Int) + b = b by omega] at b3 b4
    exact ⟨b, by omega, b2, (bL_0 hD (by omega) (by omega)).mpr ⟨by omega, b3⟩, b4⟩
  · rintro ⟨l, b, b1, b2, b3, b4⟩
    have c0 : τ.1 36 (τ.1 23 d) = nsR σ R 0 D d := by
      rw [h36]
      exact cm_ns hw (Or.inl rfl) hD hD2 hn (fun d x y => by rw [(ag_7 hd x y).2.1, show 30 * (0 : Int) + d = d by omega]) (by omega) (by omega) l
    refine ⟨(lv.mp l).2, ?_⟩
    rw [c0]
    unfold nsR
    have lb := (bL_0 hD (i := b) (by omega) (by omega)).mp b3
    exact (more1 (P := fun b => σ.1 68 (30 * 0 + b) = 0 ∧ R (30 * 0 + b) = R d) (n := D) (d := d) (by omega) (by omega) ⟨by rw [show 30 * (0 : Int) + d = d by omega]; exact (lv.mp l).2, by rw [show 30 * (0 : Int) + d = d by omega]⟩).mpr ⟨b, by omega, b2, by rw [show 30 * (0 : Int) + b = b by omega]; exact lb.2, by rw [show 30 * (0 : Int) + b = b by omega]; exact b4⟩
end Much
