-- one call of both: join
theorem Jn_y_2 {r : Int} {D : Nat} : ∀ (n : Nat) (τ σ2 : ga_S), Jn_2 r D n τ σ2 → (∀ d : Int, D ≤ d → σ2.1 7 d = τ.1 7 d) ∧ ∀ z : Int, 4 * D ≤ z → σ2.1 8 z = τ.1 8 z
  | 0, τ, σ2, hj => by
    rw [hj.2]
    exact ⟨fun _ _ => rfl, fun _ _ => rfl⟩
  | n + 1, τ, σ2, hj => by
    obtain ⟨a, b, j1, j2⟩ := hj
    have h1 := j1.1
    have h2 := j1.2.1
    have ih := Jn_y_2 n _ σ2 j2
    refine ⟨fun d d1 => ?_, fun z z1 => ?_⟩
    · rw [ih.1 d d1]
      unfold jS_2
      split
      · show ga_up (τ.1 7) b 1 d = _
        rw [ga_up_ne _ _ (by omega)]
      · show ga_up (τ.1 7) b 1 d = _
        rw [ga_up_ne _ _ (by omega)]
    · rw [ih.2 z z1]
      unfold jS_2
      split
      · rfl
      · show ga_up (τ.1 8) ((a : Int) * 4 + (if _ then 0 else 1)) _ z = _
        rw [ga_up_ne _ _ (by split <;> omega)]
theorem Inv_join_2 {σ σ2 ρ τ : ga_S} {N D M E n : Nat} {r a : Int} (h : Inv σ N D M E) (hj : Jn_2 r D n σ σ2) (hρ : ρ = cd0 (outS σ2 a) 0) (hA : agS_2 σ2 τ N D) (hI : JI 0 ρ τ D) : Inv τ N D M E := by
  have jx := Jn_x_2 n σ σ2 hj
  have jy := Jn_y_2 n σ σ2 hj
  have r1 : ∀ c, c ≠ 63 → c ≠ 88 → ρ.1 c = σ2.1 c := fun c c1 c2 => by rw [hρ]; exact (stI_ne _ _ c1).trans (stI_ne _ _ c2)
  have r2 : ρ.2 = σ2.2 := by rw [hρ]; rfl
  have r3 : ∀ j : Int, j = 14 ∨ j = 15 ∨ j = 17 ∨ j = 18 → ρ.1 63 j = σ2.1 63 j := fun j hj => by rw [hρ]; exact cd0_j (σ := outS σ2 a) (by omega)
  obtain ⟨i1, i2, i3, i4, i5, i6⟩ := hI
  have ex : ∀ c, c ∉ [7, 8, 20, 63, 68, 69, 88] → τ.1 c = σ.1 c := by
    intro c hc
    simp only [List.mem_cons, List.not_mem_nil, or_false, not_or] at hc
    obtain ⟨c1, c2, c3, c4, c5, c6, c7⟩ := hc
    rw [i1 c c5 c6, r1 c c4 c7, jx.1 c c3 c1 c2]
  have f2 : ∀ c, c ≠ 67 → c ≠ 6 → τ.2 c = σ.2 c := fun c c1 c2 => by rw [i2 c c1, r2, jx.2 c c2]
  have e63 : ∀ j : Int, j = 14 ∨ j = 15 ∨ j = 17 ∨ j = 18 → τ.1 63 j = σ.1 63 j := fun j hj => by rw [i1 63 (by decide) (by decide), r3 j hj, jx.1 63 (by decide) (by decide) (by decide)]
  have g7 : τ.1 7 = σ2.1 7 := by rw [i1 7 (by decide) (by decide), r1 7 (by decide) (by decide)]
  have g8 : τ.1 8 = σ2.1 8 := by rw [i1 8 (by decide) (by decide), r1 8 (by decide) (by decide)]
  have q68 : ∀ x : Int, x < 30 * 0 ∨ 30 * 0 + 30 ≤ x → τ.1 68 x = σ.1 68 x ∧ τ.2 67 x = σ.2 67 x := fun x hx => by
    have := i3 x hx
    rw [this.1, this.2, r1 68 (by decide) (by decide), r2, jx.1 68 (by decide) (by decide) (by decide), jx.2 67 (by decide)]
    exact ⟨rfl, rfl⟩
  have q69 : ∀ z : Int, z < 120 * 0 ∨ 120 * 0 + 120 ≤ z → τ.1 69 z = σ.1 69 z := fun z hz => by
    rw [i4 z hz, r1 69 (by decide) (by decide), jx.1 69 (by decide) (by decide) (by decide)]
  obtain ⟨⟨a1, a2⟩, ⟨b1, b2, b3⟩, ⟨c1, c2, c3, c4⟩, df, k⟩ := h
  have hD9 := a1.1.1.2.2.2.1
  have hE9 := a2.1.1.2.2.2.1
  refine ⟨?_, ⟨by unfold agG; rw [ex 17 (by decide), ex 71 (by decide)]; exact b1, by unfold agH; rw [f2 18 (by decide) (by decide), f2 72 (by decide) (by decide)]; exact b2, by unfold shB; rw [f2 72 (by decide) (by decide)]; exact b3⟩, ⟨by rw [ex 66 (by decide)]; exact c1, i5, by rw [ex 64 (by decide)]; exact c3, (cg_unq (ex 64 (by decide)) (ex 65 (by decide))).mpr c4⟩, dfB_keep df (ex 0 (by decide)) (fun j hj => e63 j (by omega)) (ex 60 (by decide)) (ex 61 (by decide)) (ex 77 (by decide)), kpB_keep k (by omega) (by omega) (by omega) (by omega) (ex 55 (by decide)) (e63 18 (by decide)) (ex 56 (by decide)) (ex 57 (by decide)) (ex 58 (by decide)) (ex 59 (by decide)) (fun _ d _ _ => by rw [ex 78 (by decide)]) (ex 79 (by decide)) (fun _ _ => by rw [ex 66 (by decide)]) hE9 hD9⟩
  have hs : SD 0 (τ.1 2) (τ.1 3) (τ.1 5) (τ.1 7) (τ.1 8) (τ.2 6) τ N D := by
    have g3 : τ.1 3 = σ2.1 3 := by rw [i1 3 (by decide) (by decide), r1 3 (by decide) (by decide)]
    have g5 : τ.1 5 = σ2.1 5 := by rw [i1 5 (by decide) (by decide), r1 5 (by decide) (by decide)]
    have g2 : τ.1 2 = σ2.1 2 := by rw [i1 2 (by decide) (by decide), r1 2 (by decide) (by decide)]
    have g6 : τ.2 6 = σ2.2 6 := by rw [i2 6 (by decide), r2]
    have o : SD 0 (σ.1 2) (σ.1 3) (σ.1 5) (σ.1 7) (σ.1 8) (σ.2 6) σ N D := by first | exact a1 | exact a2
    obtain ⟨_, o2, o3, o4, _⟩ := o
    refine ⟨by rw [g2, g3, g5, g6, g7, g8]; exact hA, fun n n1 n2 => by rw [ex 3 (by decide)]; exact o2 n n1 n2, fun d d1 d2 => by rw [g7, jy.1 d d1]; exact o3 d d1 d2, fun z z1 z2 => by rw [g8, jy.2 z z1]; exact o4 z z1 z2, i6⟩
  have ho : SD 1 (τ.1 9) (τ.1 10) (τ.1 12) (τ.1 14) (τ.1 15) (τ.2 13) τ M E := by
    refine SD_keep (σ := σ) (ex 9 (by decide)) (ex 10 (by decide)) (ex 12 (by decide)) (ex 14 (by decide)) (ex 15 (by decide)) (f2 13 (by decide) (by decide)) (by rw [ex 65 (by decide)]) (by rw [ex 70 (by decide)]) (fun n n1 n2 => by rw [ex 64 (by decide)]) (fun d d1 d2 => by rw [ex 66 (by decide)]; exact ⟨rfl, q68 _ (by omega)⟩) (fun j j1 j2 => q69 _ (by omega)) (by first | exact a1 | exact a2)
  first | exact ⟨hs, ho⟩ | exact ⟨ho, hs⟩
theorem Jn_y_9 {r : Int} {D : Nat} : ∀ (n : Nat) (τ σ2 : ga_S), Jn_9 r D n τ σ2 → (∀ d : Int, D ≤ d → σ2.1 14 d = τ.1 14 d) ∧ ∀ z : Int, 4 * D ≤ z → σ2.1 15 z = τ.1 15 z
  | 0, τ, σ2, hj => by
    rw [hj.2]
    exact ⟨fun _ _ => rfl, fun _ _ => rfl⟩
  | n + 1, τ, σ2, hj => by
    obtain ⟨a, b, j1, j2⟩ := hj
    have h1 := j1.1
    have h2 := j1.2.1
    have ih := Jn_y_9 n _ σ2 j2
    refine ⟨fun d d1 => ?_, fun z z1 => ?_⟩
    · rw [ih.1 d d1]
      unfold jS_9
      split
      · show ga_up (τ.1 14) b 1 d = _
        rw [ga_up_ne _ _ (by omega)]
      · show ga_up (τ.1 14) b 1 d = _
        rw [ga_up_ne _ _ (by omega)]
    · rw [ih.2 z z1]
      unfold jS_9
      split
      · rfl
      · show ga_up (τ.1 15) ((a : Int) * 4 + (if _ then 0 else 1)) _ z = _
        rw [ga_up_ne _ _ (by split <;> omega)]
theorem Inv_join_9 {σ σ2 ρ τ : ga_S} {N D M E n : Nat} {r a : Int} (h : Inv σ N D M E) (hj : Jn_9 r E n σ σ2) (hρ : ρ = cd0 (outS σ2 a) 0) (hA : agS_9 σ2 τ M E) (hI : JI 1 ρ τ E) : Inv τ N D M E := by
  have jx := Jn_x_9 n σ σ2 hj
  have jy := Jn_y_9 n σ σ2 hj
  have r1 : ∀ c, c ≠ 63 → c ≠ 88 → ρ.1 c = σ2.1 c := fun c c1 c2 => by rw [hρ]; exact (stI_ne _ _ c1).trans (stI_ne _ _ c2)
  have r2 : ρ.2 = σ2.2 := by rw [hρ]; rfl
  have r3 : ∀ j : Int, j = 14 ∨ j = 15 ∨ j = 17 ∨ j = 18 → ρ.1 63 j = σ2.1 63 j := fun j hj => by rw [hρ]; exact cd0_j (σ := outS σ2 a) (by omega)
  obtain ⟨i1, i2, i3, i4, i5, i6⟩ := hI
  have ex : ∀ c, c ∉ [14, 15, 20, 63, 68, 69, 88] → τ.1 c = σ.1 c := by
    intro c hc
    simp only [List.mem_cons, List.not_mem_nil, or_false, not_or] at hc
    obtain ⟨c1, c2, c3, c4, c5, c6, c7⟩ := hc
    rw [i1 c c5 c6, r1 c c4 c7, jx.1 c c3 c1 c2]
  have f2 : ∀ c, c ≠ 67 → c ≠ 13 → τ.2 c = σ.2 c := fun c c1 c2 => by rw [i2 c c1, r2, jx.2 c c2]
  have e63 : ∀ j : Int, j = 14 ∨ j = 15 ∨ j = 17 ∨ j = 18 → τ.1 63 j = σ.1 63 j := fun j hj => by rw [i1 63 (by decide) (by decide), r3 j hj, jx.1 63 (by decide) (by decide) (by decide)]
  have g7 : τ.1 14 = σ2.1 14 := by rw [i1 14 (by decide) (by decide), r1 14 (by decide) (by decide)]
  have g8 : τ.1 15 = σ2.1 15 := by rw [i1 15 (by decide) (by decide), r1 15 (by decide) (by decide)]
  have q68 : ∀ x : Int, x < 30 * 1 ∨ 30 * 1 + 30 ≤ x → τ.1 68 x = σ.1 68 x ∧ τ.2 67 x = σ.2 67 x := fun x hx => by
    have := i3 x hx
    rw [this.1, this.2, r1 68 (by decide) (by decide), r2, jx.1 68 (by decide) (by decide) (by decide), jx.2 67 (by decide)]
    exact ⟨rfl, rfl⟩
  have q69 : ∀ z : Int, z < 120 * 1 ∨ 120 * 1 + 120 ≤ z → τ.1 69 z = σ.1 69 z := fun z hz => by
    rw [i4 z hz, r1 69 (by decide) (by decide), jx.1 69 (by decide) (by decide) (by decide)]
  obtain ⟨⟨a1, a2⟩, ⟨b1, b2, b3⟩, ⟨c1, c2, c3, c4⟩, df, k⟩ := h
  have hD9 := a1.1.1.2.2.2.1
  have hE9 := a2.1.1.2.2.2.1
  refine ⟨?_, ⟨by unfold agG; rw [ex 17 (by decide), ex 71 (by decide)]; exact b1, by unfold agH; rw [f2 18 (by decide) (by decide), f2 72 (by decide) (by decide)]; exact b2, by unfold shB; rw [f2 72 (by decide) (by decide)]; exact b3⟩, ⟨by rw [ex 66 (by decide)]; exact c1, i5, by rw [ex 64 (by decide)]; exact c3, (cg_unq (ex 64 (by decide)) (ex 65 (by decide))).mpr c4⟩, dfB_keep df (ex 0 (by decide)) (fun j hj => e63 j (by omega)) (ex 60 (by decide)) (ex 61 (by decide)) (ex 77 (by decide)), kpB_keep k (by omega) (by omega) (by omega) (by omega) (ex 55 (by decide)) (e63 18 (by decide)) (ex 56 (by decide)) (ex 57 (by decide)) (ex 58 (by decide)) (ex 59 (by decide)) (fun _ d _ _ => by rw [ex 78 (by decide)]) (ex 79 (by decide)) (fun _ _ => by rw [ex 66 (by decide)]) hE9 hD9⟩
  have hs : SD 1 (τ.1 9) (τ.1 10) (τ.1 12) (τ.1 14) (τ.1 15) (τ.2 13) τ M E := by
    have g3 : τ.1 10 = σ2.1 10 := by rw [i1 10 (by decide) (by decide), r1 10 (by decide) (by decide)]
    have g5 : τ.1 12 = σ2.1 12 := by rw [i1 12 (by decide) (by decide), r1 12 (by decide) (by decide)]
    have g2 : τ.1 9 = σ2.1 9 := by rw [i1 9 (by decide) (by decide), r1 9 (by decide) (by decide)]
    have g6 : τ.2 13 = σ2.2 13 := by rw [i2 13 (by decide), r2]
    have o : SD 1 (σ.1 9) (σ.1 10) (σ.1 12) (σ.1 14) (σ.1 15) (σ.2 13) σ M E := by first | exact a1 | exact a2
    obtain ⟨_, o2, o3, o4, _⟩ := o
    refine ⟨by rw [g2, g3, g5, g6, g7, g8]; exact hA, fun n n1 n2 => by rw [ex 10 (by decide)]; exact o2 n n1 n2, fun d d1 d2 => by rw [g7, jy.1 d d1]; exact o3 d d1 d2, fun z z1 z2 => by rw [g8, jy.2 z z1]; exact o4 z z1 z2, i6⟩
  have ho : SD 0 (τ.1 2) (τ.1 3) (τ.1 5) (τ.1 7) (τ.1 8) (τ.2 6) τ N D := by
    refine SD_keep (σ := σ) (ex 2 (by decide)) (ex 3 (by decide)) (ex 5 (by decide)) (ex 7 (by decide)) (ex 8 (by decide)) (f2 6 (by decide) (by decide)) (by rw [ex 65 (by decide)]) (by rw [ex 70 (by decide)]) (fun n n1 n2 => by rw [ex 64 (by decide)]) (fun d d1 d2 => by rw [ex 66 (by decide)]; exact ⟨rfl, q68 _ (by omega)⟩) (fun j j1 j2 => q69 _ (by omega)) (by first | exact a1 | exact a2)
  first | exact ⟨hs, ho⟩ | exact ⟨ho, hs⟩
theorem ST_join (s r : Int) {σ : ga_S} (hI : IvO σ) : STEP (fun _ => True) mX10_join mX11_join (x12 σ) [Vi s, Vi r] σ := by
  obtain ⟨N, D, M, E, h⟩ := id hI
  have B : ∀ c, ¬ ((s = 0 ∨ s = 1) ∧ (r = 0 ∨ r = 1)) → c ≠ 0 → c = (if s = 0 ∨ s = 1 then 2 else 1) → ∃ tR, tR ≤ 10 ∧ ga_Mt tR 0 0 mX11_join [Vr 63, Vi s, Vi r] (HP σ) (REND c (fun _ => True)) ga_nox := fun c hp c0 hc => ⟨_, by decide, (T_X11_join_X s r σ hp).mono (fun v2 h2 w => by
    rw [← hc] at w
    exact REND_bad c0 hI w.1 w.2) (fun _ _ z => z)⟩
  by_cases hx : s < 0 ∨ 1 < s
  · exact STEP_of (fun _ _ => False) (fun c => c = 1) (by decide) (by decide) (by decide) (T_X10_join_X s r σ hx) (fun _ _ z => z.elim) (fun E h z => ⟨Or.inl ⟨z.1, rfl⟩, z.2⟩) (fun _ _ z => z.elim) (fun c hc => B c (by omega) (by omega) (by rw [if_neg (by omega)]; exact hc))
  have T2 : s = 0 → STEP (fun _ => True) mX10_join mX11_join (x12 σ) [Vi s, Vi r] σ := by
    intro hsi
    subst hsi
    by_cases hr : r = 0 ∨ r = 1
    · have hD9 := h.1.1.1.1.2.2.2.1
      have hN9 := h.1.1.1.1.2.1
      obtain ⟨n, σ2, hj, n1, n2⟩ := Jn_ex_2 (r := r) (D := D) 30 σ (by have := (sz_b (f := fun d => tv (σ.1 7 d = 0)) (n := D) (fun _ => tv_le)).2; omega)
      have hn : n < 30 := by
        have := (sz_b (f := fun d => tv (σ.1 7 d = 0)) (n := D) (fun _ => tv_le)).2
        omega
      have jx := Jn_x_2 n σ σ2 hj
      have C := T_X10_join_2 r σ σ2 N D n hr h.1.1.1.1 hn hj (by rw [jx.1 2 (by decide) (by decide) (by decide)]; exact h.1.1.1.1.2.2.1)
      refine STEP_of (fun a σ1 => a = sz (fun d => tv (σ2.1 7 d = 0)) D ∧ σ1 = σ2) (fun _ => False) (by decide) (by decide) (by decide) C (fun v h2 w => ⟨_, _, ⟨rfl, rfl⟩, w⟩) (fun _ _ z => z.elim) (fun a σ1 w => ⟨trivial, 5, by decide, ?_⟩) (fun _ z => z.elim)
      obtain ⟨wa, ws⟩ := w
      subst ws
      have r1 : ∀ c, c ≠ 63 → c ≠ 88 → (cd0 (outS σ1 a) 0).1 c = σ1.1 c := fun c c1 c2 => (stI_ne _ _ c1).trans (stI_ne _ _ c2)
      have r6 : ∀ c, 64 ≤ c → c ≤ 71 → (cd0 (outS σ1 a) 0).1 c = σ.1 c := fun c c1 c2 => (r1 c (by omega) (by omega)).trans (jx.1 c (by omega) (by omega) (by omega))
      have d67 : (cd0 (outS σ1 a) 0).2 67 = σ.2 67 := jx.2 67 (by decide)
      have hag : agS_2 σ (cd0 (outS σ1 a) 0) N D := by
        obtain ⟨y1, y2, y3, y4, y5, y6⟩ := h.1.1.1
        exact ⟨y1, by rw [r6 65 (by decide) (by decide)]; exact y2, by rw [r6 70 (by decide) (by decide)]; exact y3, by rw [r6 64 (by decide) (by decide)]; exact y4, by rw [r6 66 (by decide) (by decide), r6 68 (by decide) (by decide), d67]; exact y5, by rw [r6 69 (by decide) (by decide)]; exact y6⟩
      have hg : agG (σ.1 17) (cd0 (outS σ1 a) 0) := by
        unfold agG
        rw [r6 71 (by decide) (by decide)]
        exact h.2.1.1
      have hJ : JI 0 (cd0 (outS σ1 a) 0) (cd0 (outS σ1 a) 0) D := ⟨fun _ _ _ => rfl, fun _ _ => rfl, fun _ _ => ⟨rfl, rfl⟩, fun _ _ => rfl, by rw [r6 69 (by decide) (by decide)]; exact h.2.2.1.2.1, finS_cg (fun d _ _ => by rw [r6 68 (by decide) (by decide), d67]; exact ⟨rfl, rfl⟩) hD9 h.1.1.2.2.2.2⟩
      obtain ⟨ρ2, k1, k2, k3⟩ := Jn_Jr_2 hr hN9 hD9 n σ (cd0 (outS σ1 a) 0) σ1 hag hg hJ hj
      have hrok : rok 0 (outS σ1 a) N D := by
        obtain ⟨y1, y2, y3, y4, y5, y6, y7⟩ := h.wf.1
        have u6 : ∀ c, 64 ≤ c → c ≤ 71 → (outS σ1 a).1 c = σ.1 c := fun c c1 c2 => (stI_ne _ _ (by omega)).trans (jx.1 c (by omega) (by omega) (by omega))
        have u67 : (outS σ1 a).2 67 = σ.2 67 := jx.2 67 (by decide)
        exact ⟨y1, by rw [u6 70 (by decide) (by decide)]; exact y2, y3, by rw [u6 65 (by decide) (by decide)]; exact y4, y5, by rw [u6 66 (by decide) (by decide)]; exact y6, by rw [u67]; exact y7⟩
      refine (T_X11_join 0 r (outS σ1 a) ρ2 N D n hr hrok k1 k2.2.2.1).mono (fun v h2 w => ?_) (fun _ _ z => z)
      have ea : sz (fun d => tv (ρ2.1 68 (30 * 0 + d) = 0)) D = a := by
        rw [wa]
        exact sz_congr (fun d hd => by rw [(k2.2.2.2.2.1 d (by omega) (by omega)).2.1])
      refine ⟨_, ρ2, ea, w.1, w.2, ?_, fun _ => ?_, ⟨N, D, M, E, Inv_join_2 h hj rfl k2 k3⟩⟩
      · rw [k3.1 63 (by decide) (by decide)]; rfl
      · rw [k3.1 88 (by decide) (by decide), ea]; rfl
    · exact STEP_of (fun _ _ => False) (fun c => c = 2) (by decide) (by decide) (by decide) (T_X10_join_2_X r σ hr) (fun _ _ z => z.elim) (fun E h z => ⟨Or.inr ⟨z.1, rfl⟩, z.2⟩) (fun _ _ z => z.elim) (fun c hc => B c (by omega) (by omega) (by rw [if_pos (by decide)]; exact hc))
  have T9 : s = 1 → STEP (fun _ => True) mX10_join mX11_join (x12 σ) [Vi s, Vi r] σ := by
    intro hsi
    subst hsi
    by_cases hr : r = 0 ∨ r = 1
    · have hD9 := h.1.2.1.1.2.2.2.1
      have hN9 := h.1.2.1.1.2.1
      obtain ⟨n, σ2, hj, n1, n2⟩ := Jn_ex_9 (r := r) (D := E) 30 σ (by have := (sz_b (f := fun d => tv (σ.1 14 d = 0)) (n := E) (fun _ => tv_le)).2; omega)
      have hn : n < 30 := by
        have := (sz_b (f := fun d => tv (σ.1 14 d = 0)) (n := E) (fun _ => tv_le)).2
        omega
      have jx := Jn_x_9 n σ σ2 hj
      have C := T_X10_join_9 r σ σ2 M E n hr h.1.2.1.1 hn hj (by rw [jx.1 9 (by decide) (by decide) (by decide)]; exact h.1.2.1.1.2.2.1)
      refine STEP_of (fun a σ1 => a = sz (fun d => tv (σ2.1 14 d = 0)) E ∧ σ1 = σ2) (fun _ => False) (by decide) (by decide) (by decide) C (fun v h2 w => ⟨_, _, ⟨rfl, rfl⟩, w⟩) (fun _ _ z => z.elim) (fun a σ1 w => ⟨trivial, 5, by decide, ?_⟩) (fun _ z => z.elim)
      obtain ⟨wa, ws⟩ := w
      subst ws
      have r1 : ∀ c, c ≠ 63 → c ≠ 88 → (cd0 (outS σ1 a) 0).1 c = σ1.1 c := fun c c1 c2 => (stI_ne _ _ c1).trans (stI_ne _ _ c2)
      have r6 : ∀ c, 64 ≤ c → c ≤ 71 → (cd0 (outS σ1 a) 0).1 c = σ.1 c := fun c c1 c2 => (r1 c (by omega) (by omega)).trans (jx.1 c (by omega) (by omega) (by omega))
      have d67 : (cd0 (outS σ1 a) 0).2 67 = σ.2 67 := jx.2 67 (by decide)
      have hag : agS_9 σ (cd0 (outS σ1 a) 0) M E := by
        obtain ⟨y1, y2, y3, y4, y5, y6⟩ := h.1.2.1
        exact ⟨y1, by rw [r6 65 (by decide) (by decide)]; exact y2, by rw [r6 70 (by decide) (by decide)]; exact y3, by rw [r6 64 (by decide) (by decide)]; exact y4, by rw [r6 66 (by decide) (by decide), r6 68 (by decide) (by decide), d67]; exact y5, by rw [r6 69 (by decide) (by decide)]; exact y6⟩
      have hg : agG (σ.1 17) (cd0 (outS σ1 a) 0) := by
        unfold agG
        rw [r6 71 (by decide) (by decide)]
        exact h.2.1.1
      have hJ : JI 1 (cd0 (outS σ1 a) 0) (cd0 (outS σ1 a) 0) E := ⟨fun _ _ _ => rfl, fun _ _ => rfl, fun _ _ => ⟨rfl, rfl⟩, fun _ _ => rfl, by rw [r6 69 (by decide) (by decide)]; exact h.2.2.1.2.1, finS_cg (fun d _ _ => by rw [r6 68 (by decide) (by decide), d67]; exact ⟨rfl, rfl⟩) hD9 h.1.2.2.2.2.2⟩
      obtain ⟨ρ2, k1, k2, k3⟩ := Jn_Jr_9 hr hN9 hD9 n σ (cd0 (outS σ1 a) 0) σ1 hag hg hJ hj
      have hrok : rok 1 (outS σ1 a) M E := by
        obtain ⟨y1, y2, y3, y4, y5, y6, y7⟩ := h.wf.2.1
        have u6 : ∀ c, 64 ≤ c → c ≤ 71 → (outS σ1 a).1 c = σ.1 c := fun c c1 c2 => (stI_ne _ _ (by omega)).trans (jx.1 c (by omega) (by omega) (by omega))
        have u67 : (outS σ1 a).2 67 = σ.2 67 := jx.2 67 (by decide)
        exact ⟨y1, by rw [u6 70 (by decide) (by decide)]; exact y2, y3, by rw [u6 65 (by decide) (by decide)]; exact y4, y5, by rw [u6 66 (by decide) (by decide)]; exact y6, by rw [u67]; exact y7⟩
      refine (T_X11_join 1 r (outS σ1 a) ρ2 M E n hr hrok k1 k2.2.2.1).mono (fun v h2 w => ?_) (fun _ _ z => z)
      have ea : sz (fun d => tv (ρ2.1 68 (30 * 1 + d) = 0)) E = a := by
        rw [wa]
        exact sz_congr (fun d hd => by rw [(k2.2.2.2.2.1 d (by omega) (by omega)).2.1])
      refine ⟨_, ρ2, ea, w.1, w.2, ?_, fun _ => ?_, ⟨N, D, M, E, Inv_join_9 h hj rfl k2 k3⟩⟩
      · rw [k3.1 63 (by decide) (by decide)]; rfl
      · rw [k3.1 88 (by decide) (by decide), ea]; rfl
    · exact STEP_of (fun _ _ => False) (fun c => c = 2) (by decide) (by decide) (by decide) (T_X10_join_9_X r σ hr) (fun _ _ z => z.elim) (fun E h z => ⟨Or.inr ⟨z.1, rfl⟩, z.2⟩) (fun _ _ z => z.elim) (fun c hc => B c (by omega) (by omega) (by rw [if_pos (by decide)]; exact hc))
  by_cases q : s = 0
  · exact T2 q
  · exact T9 (by omega)
