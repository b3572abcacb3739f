-- one call of both: device
theorem SD_dev {i : Int} {cnt port kind gone pins cnt2 kind2 : Int → Int} {sizes sizes2 : Int → UInt64} {σ τ : ga_S} {N D : Nat} {kd : Int} {z : UInt64} (hD : D < 30) (hk : 0 ≤ kd ∧ kd < 8) (hz : dLt z 1043) (e0 : cnt2 0 = cnt 0) (e3 : cnt2 3 = (D + 1 : Nat)) (ek : kind2 = ga_up kind D kd) (es : sizes2 = ga_up sizes D z) (p65 : τ.1 65 i = σ.1 65 i) (p70 : τ.1 70 i = (D + 1 : Nat)) (q64 : ∀ n : Int, 0 ≤ n → n < 40 → τ.1 64 (40 * i + n) = σ.1 64 (40 * i + n)) (q : ∀ d : Int, 0 ≤ d → d < 30 → d ≠ D → τ.1 66 (30 * i + d) = σ.1 66 (30 * i + d) ∧ τ.1 68 (30 * i + d) = σ.1 68 (30 * i + d) ∧ τ.2 67 (30 * i + d) = σ.2 67 (30 * i + d)) (qn : τ.1 66 (30 * i + D) = kd ∧ τ.1 68 (30 * i + D) = 0 ∧ τ.2 67 (30 * i + D) = z) (q69 : ∀ j : Int, 0 ≤ j → j < 120 → τ.1 69 (120 * i + j) = if 4 * (D : Int) ≤ j ∧ j < 4 * D + 4 then -1 else σ.1 69 (120 * i + j)) (h : SD i cnt port kind gone pins sizes σ N D) : SD i cnt2 port kind2 gone pins sizes2 τ N (D + 1) := by
  obtain ⟨⟨⟨k1, k2, k3, k4, k5, k6, k7⟩, a2, a3, a4, a5, a6⟩, b, c, d, e⟩ := h
  have hsz : SzG z := hz.good (by decide)
  refine ⟨⟨⟨by rw [e0]; exact k1, k2, e3, by omega, fun x x1 x2 => ?_, fun x x1 x2 => ?_, fun j j1 j2 => ?_⟩, by rw [p65]; exact a2, p70, fun n n1 n2 => by rw [q64 n n1 (by omega)]; exact a4 n n1 n2, fun x x1 x2 => ?_, fun j j1 j2 => ?_⟩, b, fun x x1 x2 => c x (by omega) x2, fun j j1 j2 => d j (by omega) j2, ?_⟩
  · rw [ek]
    by_cases w : x = D
    · rw [w, ga_up_at]; exact hk
    · rw [ga_up_ne _ _ w]; exact k5 x x1 (by omega)
  · rw [es]
    by_cases w : x = D
    · rw [w, ga_up_at]; exact hsz
    · rw [ga_up_ne _ _ w]; exact k6 x x1 (by omega)
  · by_cases w : j < 4 * D
    · exact k7 j j1 w
    · rw [d j (by omega) (by omega)]; omega
  · rw [ek, es]
    by_cases w : x = D
    · rw [w, ga_up_at, ga_up_at, qn.1, qn.2.1, qn.2.2, c D (by omega) (by omega)]; exact ⟨rfl, rfl, rfl⟩
    · have k := q x x1 (by omega) w
      rw [ga_up_ne _ _ w, ga_up_ne _ _ w, k.1, k.2.1, k.2.2]
      exact a5 x x1 (by omega)
  · rw [q69 j j1 (by omega)]
    by_cases w : j < 4 * D
    · rw [if_neg (by omega)]; exact a6 j j1 w
    · rw [if_pos (by omega)]; exact d j (by omega) (by omega)
  · obtain ⟨G, g1, g2⟩ := e
    refine ⟨G, ?_, fun x x1 x2 => ?_⟩
    · rw [sz_s, qn.2.1, tvz (by decide), Int.add_zero, g1]
      exact sz_congr (fun x hx => by rw [(q x (by omega) (by omega) (by omega)).2.1])
    · by_cases w : x = D
      · rw [w, qn.2.2]
        exact Nat.lt_of_lt_of_le hz (Nat.mul_le_mul_right _ (by omega))
      · rw [(q x x1 x2 w).2.2]; exact g2 x x1 x2
theorem eig_dev {v : Int32} (h : ¬ dcl (eig v) FP.dconst0 ≤ 0 ∧ dcg (eig v) 4696837146684686336 ≤ 0) : dLt (eig v) 1043 := by
  rcases eig_or v with w | w
  · have k := dcl_iff w (show SzG 4696837146684686336 by unfold SzG; decide)
    have t : (4696837146684686336 : UInt64).toNat = 4696837146684686336 := by decide
    unfold dLt
    have := h.2
    by_cases q : dcg (eig v) 4696837146684686336 < 0
    · have := k.2.2.1.mp q
      omega
    · have := k.2.2.2.mp (by omega)
      omega
  · have := neg_dc w (y := FP.dconst0) (by unfold SzG; decide)
    exact absurd (Int.le_of_lt this) h.1
theorem fl4_in {f : Int → Int} {a n j : Int} (h : -1 ≤ f j ∧ f j < 40) : -1 ≤ fl4 f a n j ∧ fl4 f a n j < 40 := by
  unfold fl4
  split
  · decide
  · exact h
abbrev cDev_2 (σ : ga_S) (kd : Int) (z : UInt64) : ga_S := stI (stD (stI σ 5 (ga_up (σ.1 5) (σ.1 2 3) kd)) 6 (ga_up (σ.2 6) (σ.1 2 3) z)) 2 (ga_up (σ.1 2) 3 (σ.1 2 3 + 1))
theorem Inv_dev_2 {σ τ : ga_S} {N D M E : Nat} {kd : Int} {z : UInt64} (h : Inv σ N D M E) (h30 : D < 30) (hk : 0 ≤ kd ∧ kd < 8) (hz : dLt z 1043) (hτ : τ = dSt (outS (cDev_2 σ kd z) (σ.1 2 3)) 0 kd z) : Inv τ N (D+1) M E := by
  have e70 : τ.1 70 = ga_up (σ.1 70) 0 (σ.1 70 0 + 1) := by rw [hτ]; rfl
  have e66 : τ.1 66 = ga_up (σ.1 66) (30 * 0 + σ.1 70 0) kd := by rw [hτ]; rfl
  have e67 : τ.2 67 = ga_up (σ.2 67) (30 * 0 + σ.1 70 0) z := by rw [hτ]; rfl
  have e68 : τ.1 68 = ga_up (σ.1 68) (30 * 0 + σ.1 70 0) 0 := by rw [hτ]; rfl
  have e69 : τ.1 69 = fl4 (σ.1 69) (30 * 0 + σ.1 70 0) (4 : Nat) := by rw [hτ]; rfl
  have e78 : τ.1 78 = ga_up (σ.1 78) (30 * 0 + σ.1 70 0) (-1) := by rw [hτ]; rfl
  have e2 : τ.1 2 = ga_up (σ.1 2) 3 (σ.1 2 3 + 1) := by rw [hτ]; rfl
  have ek : τ.1 5 = ga_up (σ.1 5) (σ.1 2 3) kd := by rw [hτ]; rfl
  have es : τ.2 6 = ga_up (σ.2 6) (σ.1 2 3) z := by rw [hτ]; rfl
  have fo : τ.2 13 = σ.2 13 := by rw [hτ]; rfl
  have f18 : τ.2 18 = σ.2 18 := by rw [hτ]; rfl
  have f72 : τ.2 72 = σ.2 72 := by rw [hτ]; rfl
  have e63 : ∀ j : Int, j = 14 ∨ j = 15 ∨ j = 17 ∨ j = 18 → τ.1 63 j = σ.1 63 j := fun j hj => by rw [hτ]; exact cd0_j (σ := outS (cDev_2 σ kd z) (σ.1 2 3)) (by omega)
  have ex : ∀ c, c ∉ [2, 5, 63, 66, 68, 69, 70, 78, 88] → τ.1 c = σ.1 c := by
    intro c hc
    simp only [List.mem_cons, List.not_mem_nil, or_false, not_or] at hc
    obtain ⟨c1, c2, c3, c4, c5, c6, c7, c8, c9⟩ := hc
    rw [hτ]
    show (stI (stI (stI (stI (stI (stI (stI (stI (stI _ _ _) _ _) _ _) _ _) _ _) _ _) _ _) _ _) _ _).1 c = _
    rw [stI_ne _ _ c7, stI_ne _ _ c8, stI_ne _ _ c6, stI_ne _ _ c5]
    show (stI (stI (stI (stI (stI σ _ _) _ _) _ _) _ _) _ _).1 c = _
    rw [stI_ne _ _ c4, stI_ne _ _ c3, stI_ne _ _ c9, stI_ne _ _ c1, stI_ne _ _ c2]
  clear hτ
  obtain ⟨⟨a1, a2⟩, ⟨b1, b2, b3⟩, ⟨c1, c2, c3, c4⟩, df, k⟩ := h
  have hD9 := a1.1.1.2.2.2.1
  have hE9 := a2.1.1.2.2.2.1
  have hh0 : σ.1 2 3 = D := by first | exact a1.1.1.2.2.1 | exact a2.1.1.2.2.1
  have h70 : σ.1 70 0 = D := by first | exact a1.1.2.2.1 | exact a2.1.2.2.1
  rw [h70] at e70 e66 e67 e68 e69 e78
  rw [hh0] at e2 ek es
  refine ⟨?_, ⟨by unfold agG; rw [ex 17 (by decide), ex 71 (by decide)]; exact b1, by unfold agH; rw [f18, f72]; exact b2, by unfold shB; rw [f72]; exact b3⟩, ⟨fun x x1 x2 => by rw [e66]; exact ga_up_in (P := fun v => 0 ≤ v ∧ v < 8) hk (c1 x x1 x2), fun x x1 x2 => by rw [e69]; exact fl4_in (c2 x x1 x2), by rw [ex 64 (by decide)]; exact c3, (cg_unq (ex 64 (by decide)) (ex 65 (by decide))).mpr c4⟩, dfB_keep df (ex 0 (by decide)) (fun j hj => e63 j (by omega)) (ex 60 (by decide)) (ex 61 (by decide)) (ex 77 (by decide)), kpB_keep k (by omega) (by omega) (by omega) (by omega) (ex 55 (by decide)) (e63 18 (by decide)) (ex 56 (by decide)) (ex 57 (by decide)) (ex 58 (by decide)) (ex 59 (by decide)) (fun w x x1 x2 => ?_) (ex 79 (by decide)) (fun x hx => by rw [e66, ga_up_ne _ _ (by omega)]) hE9 hD9⟩
  · have hs : SD 0 (τ.1 2) (τ.1 3) (τ.1 5) (τ.1 7) (τ.1 8) (τ.2 6) τ N (D + 1) := by
      rw [ex 3 (by decide), ex 7 (by decide), ex 8 (by decide)]
      refine SD_dev (σ := σ) h30 hk hz (by rw [e2, ga_up_ne _ _ (by decide)]) (by rw [e2, ga_up_at]; omega) ek es (by rw [ex 65 (by decide)]) (by rw [e70, ga_up_at]; omega) (fun n n1 n2 => by rw [ex 64 (by decide)]) (fun d d1 d2 d3 => by rw [e66, e68, e67, ga_up_ne _ _ (by omega), ga_up_ne _ _ (by omega), ga_up_ne _ _ (by omega)]; exact ⟨rfl, rfl, rfl⟩) (by rw [e66, e68, e67, ga_up_at, ga_up_at, ga_up_at]; exact ⟨rfl, rfl, rfl⟩) (fun j j1 j2 => ?_) (by first | exact a1 | exact a2)
      rw [e69]
      unfold fl4
      by_cases w : 4 * (D : Int) ≤ j ∧ j < 4 * D + 4
      · rw [if_pos w, if_pos (by omega)]
      · rw [if_neg w, if_neg (by omega)]
    have ho : SD 1 (τ.1 9) (τ.1 10) (τ.1 12) (τ.1 14) (τ.1 15) (τ.2 13) τ M E := by
      refine SD_keep (σ := σ) (ex 9 (by decide)) (ex 10 (by decide)) (ex 12 (by decide)) (ex 14 (by decide)) (ex 15 (by decide)) fo (by rw [ex 65 (by decide)]) (by rw [e70, ga_up_ne _ _ (by decide)]) (fun n n1 n2 => by rw [ex 64 (by decide)]) (fun d d1 d2 => by rw [e66, e68, e67, ga_up_ne _ _ (by omega), ga_up_ne _ _ (by omega), ga_up_ne _ _ (by omega)]; exact ⟨rfl, rfl, rfl⟩) (fun j j1 j2 => ?_) (by first | exact a1 | exact a2)
      rw [e69]
      unfold fl4
      rw [if_neg (by omega)]
    first | exact ⟨hs, ho⟩ | exact ⟨ho, hs⟩
  · rw [e78]
    by_cases q : x = 30 * 0 + D
    · rw [q, ga_up_at]
      have p := (k.2.2 w).2.2
      have p1 := p.1 D (by omega) (by omega)
      have p2 := p.2.1 D (by omega) (by omega)
      first
      | (rw [show (30 : Int) * 0 + D = D by omega]; rcases p1 with p1 | p1; exact p1.symm; omega)
      | (rw [show (30 : Int) * 1 + D = 30 + D by omega]; rcases p2 with p2 | p2; exact p2.symm; omega)
    · rw [ga_up_ne _ _ q]
abbrev cDev_9 (σ : ga_S) (kd : Int) (z : UInt64) : ga_S := stI (stD (stI σ 12 (ga_up (σ.1 12) (σ.1 9 3) kd)) 13 (ga_up (σ.2 13) (σ.1 9 3) z)) 9 (ga_up (σ.1 9) 3 (σ.1 9 3 + 1))
theorem Inv_dev_9 {σ τ : ga_S} {N D M E : Nat} {kd : Int} {z : UInt64} (h : Inv σ N D M E) (h30 : E < 30) (hk : 0 ≤ kd ∧ kd < 8) (hz : dLt z 1043) (hτ : τ = dSt (outS (cDev_9 σ kd z) (σ.1 9 3)) 1 kd z) : Inv τ N D M (E+1) := by
  have e70 : τ.1 70 = ga_up (σ.1 70) 1 (σ.1 70 1 + 1) := by rw [hτ]; rfl
  have e66 : τ.1 66 = ga_up (σ.1 66) (30 * 1 + σ.1 70 1) kd := by rw [hτ]; rfl
  have e67 : τ.2 67 = ga_up (σ.2 67) (30 * 1 + σ.1 70 1) z := by rw [hτ]; rfl
  have e68 : τ.1 68 = ga_up (σ.1 68) (30 * 1 + σ.1 70 1) 0 := by rw [hτ]; rfl
  have e69 : τ.1 69 = fl4 (σ.1 69) (30 * 1 + σ.1 70 1) (4 : Nat) := by rw [hτ]; rfl
  have e78 : τ.1 78 = ga_up (σ.1 78) (30 * 1 + σ.1 70 1) (-1) := by rw [hτ]; rfl
  have e9 : τ.1 9 = ga_up (σ.1 9) 3 (σ.1 9 3 + 1) := by rw [hτ]; rfl
  have ek : τ.1 12 = ga_up (σ.1 12) (σ.1 9 3) kd := by rw [hτ]; rfl
  have es : τ.2 13 = ga_up (σ.2 13) (σ.1 9 3) z := by rw [hτ]; rfl
  have fo : τ.2 6 = σ.2 6 := by rw [hτ]; rfl
  have f18 : τ.2 18 = σ.2 18 := by rw [hτ]; rfl
  have f72 : τ.2 72 = σ.2 72 := by rw [hτ]; rfl
  have e63 : ∀ j : Int, j = 14 ∨ j = 15 ∨ j = 17 ∨ j = 18 → τ.1 63 j = σ.1 63 j := fun j hj => by rw [hτ]; exact cd0_j (σ := outS (cDev_9 σ kd z) (σ.1 9 3)) (by omega)
  have ex : ∀ c, c ∉ [9, 12, 63, 66, 68, 69, 70, 78, 88] → τ.1 c = σ.1 c := by
    intro c hc
    simp only [List.mem_cons, List.not_mem_nil, or_false, not_or] at hc
    obtain ⟨c1, c2, c3, c4, c5, c6, c7, c8, c9⟩ := hc
    rw [hτ]
    show (stI (stI (stI (stI (stI (stI (stI (stI (stI _ _ _) _ _) _ _) _ _) _ _) _ _) _ _) _ _) _ _).1 c = _
    rw [stI_ne _ _ c7, stI_ne _ _ c8, stI_ne _ _ c6, stI_ne _ _ c5]
    show (stI (stI (stI (stI (stI σ _ _) _ _) _ _) _ _) _ _).1 c = _
    rw [stI_ne _ _ c4, stI_ne _ _ c3, stI_ne _ _ c9, stI_ne _ _ c1, stI_ne _ _ c2]
  clear hτ
  obtain ⟨⟨a1, a2⟩, ⟨b1, b2, b3⟩, ⟨c1, c2, c3, c4⟩, df, k⟩ := h
  have hD9 := a1.1.1.2.2.2.1
  have hE9 := a2.1.1.2.2.2.1
  have hh0 : σ.1 9 3 = E := by first | exact a1.1.1.2.2.1 | exact a2.1.1.2.2.1
  have h70 : σ.1 70 1 = E := by first | exact a1.1.2.2.1 | exact a2.1.2.2.1
  rw [h70] at e70 e66 e67 e68 e69 e78
  rw [hh0] at e9 ek es
  refine ⟨?_, ⟨by unfold agG; rw [ex 17 (by decide), ex 71 (by decide)]; exact b1, by unfold agH; rw [f18, f72]; exact b2, by unfold shB; rw [f72]; exact b3⟩, ⟨fun x x1 x2 => by rw [e66]; exact ga_up_in (P := fun v => 0 ≤ v ∧ v < 8) hk (c1 x x1 x2), fun x x1 x2 => by rw [e69]; exact fl4_in (c2 x x1 x2), by rw [ex 64 (by decide)]; exact c3, (cg_unq (ex 64 (by decide)) (ex 65 (by decide))).mpr c4⟩, dfB_keep df (ex 0 (by decide)) (fun j hj => e63 j (by omega)) (ex 60 (by decide)) (ex 61 (by decide)) (ex 77 (by decide)), kpB_keep k (by omega) (by omega) (by omega) (by omega) (ex 55 (by decide)) (e63 18 (by decide)) (ex 56 (by decide)) (ex 57 (by decide)) (ex 58 (by decide)) (ex 59 (by decide)) (fun w x x1 x2 => ?_) (ex 79 (by decide)) (fun x hx => by rw [e66, ga_up_ne _ _ (by omega)]) hE9 hD9⟩
  · have hs : SD 1 (τ.1 9) (τ.1 10) (τ.1 12) (τ.1 14) (τ.1 15) (τ.2 13) τ M (E + 1) := by
      rw [ex 10 (by decide), ex 14 (by decide), ex 15 (by decide)]
      refine SD_dev (σ := σ) h30 hk hz (by rw [e9, ga_up_ne _ _ (by decide)]) (by rw [e9, ga_up_at]; omega) ek es (by rw [ex 65 (by decide)]) (by rw [e70, ga_up_at]; omega) (fun n n1 n2 => by rw [ex 64 (by decide)]) (fun d d1 d2 d3 => by rw [e66, e68, e67, ga_up_ne _ _ (by omega), ga_up_ne _ _ (by omega), ga_up_ne _ _ (by omega)]; exact ⟨rfl, rfl, rfl⟩) (by rw [e66, e68, e67, ga_up_at, ga_up_at, ga_up_at]; exact ⟨rfl, rfl, rfl⟩) (fun j j1 j2 => ?_) (by first | exact a1 | exact a2)
      rw [e69]
      unfold fl4
      by_cases w : 4 * (E : Int) ≤ j ∧ j < 4 * E + 4
      · rw [if_pos w, if_pos (by omega)]
      · rw [if_neg w, if_neg (by omega)]
    have ho : SD 0 (τ.1 2) (τ.1 3) (τ.1 5) (τ.1 7) (τ.1 8) (τ.2 6) τ N D := by
      refine SD_keep (σ := σ) (ex 2 (by decide)) (ex 3 (by decide)) (ex 5 (by decide)) (ex 7 (by decide)) (ex 8 (by decide)) fo (by rw [ex 65 (by decide)]) (by rw [e70, ga_up_ne _ _ (by decide)]) (fun n n1 n2 => by rw [ex 64 (by decide)]) (fun d d1 d2 => by rw [e66, e68, e67, ga_up_ne _ _ (by omega), ga_up_ne _ _ (by omega), ga_up_ne _ _ (by omega)]; exact ⟨rfl, rfl, rfl⟩) (fun j j1 j2 => ?_) (by first | exact a1 | exact a2)
      rw [e69]
      unfold fl4
      rw [if_neg (by omega)]
    first | exact ⟨hs, ho⟩ | exact ⟨ho, hs⟩
  · rw [e78]
    by_cases q : x = 30 * 1 + E
    · rw [q, ga_up_at]
      have p := (k.2.2 w).2.2
      have p1 := p.1 E (by omega) (by omega)
      have p2 := p.2.1 E (by omega) (by omega)
      first
      | (rw [show (30 : Int) * 0 + E = E by omega]; rcases p1 with p1 | p1; exact p1.symm; omega)
      | (rw [show (30 : Int) * 1 + E = 30 + E by omega]; rcases p2 with p2 | p2; exact p2.symm; omega)
    · rw [ga_up_ne _ _ q]
theorem ST_device (s kd : Int) (v : Int32) {σ : ga_S} (hI : IvO σ) : STEP (fun _ => True) mX10_device mX11_device (x13 σ) [Vi s, Vi kd, Vd (eig v)] σ := by
  obtain ⟨N, D, M, E, h⟩ := id hI
  by_cases hx : s < 0 ∨ 1 < s
  · refine STEP_of (fun _ _ => False) (fun c => c = 1) (by decide) (by decide) (by decide) (T_X10_device_X s kd (eig v) σ hx) (fun _ _ z => z.elim) (fun E h z => ⟨Or.inl ⟨z.1, rfl⟩, z.2⟩) (fun _ _ z => z.elim) (fun c hc => ⟨_, by decide, (T_X11_device s kd (eig v) σ (fun w => by omega)).mono (fun v2 h2 w => ?_) (fun _ _ z => z)⟩)
    subst hc
    have n1 : dCo σ s kd (eig v) = 1 := if_pos (by omega)
    rcases w with ⟨w, _⟩ | ⟨_, w2, w3⟩
    · rw [n1] at w
      exact absurd w (by decide)
    · rw [n1] at w3
      exact REND_bad (by decide) hI w2 w3
  have T2 : s = 0 → STEP (fun _ => True) mX10_device mX11_device (x13 σ) [Vi s, Vi kd, Vd (eig v)] σ := by
    intro hsi
    subst hsi
    have h0 : σ.1 2 3 = D := h.1.1.1.1.2.2.1
    have h1 : D ≤ 30 := h.1.1.1.1.2.2.2.1
    have h65 : σ.1 70 0 = D := h.1.1.1.2.2.1
    refine STEP_of (fun a σ1 => ((0 ≤ kd ∧ kd < 8) ∧ σ.1 2 3 < 30 ∧ ¬ dcl (eig v) FP.dconst0 ≤ 0 ∧ dcg (eig v) 4696837146684686336 ≤ 0) ∧ a = σ.1 2 3 ∧ σ1 = cDev_2 σ kd (eig v)) (fun c => (c = 1 ∧ ¬ (0 ≤ kd ∧ kd < 8)) ∨ (c = 2 ∧ (0 ≤ kd ∧ kd < 8) ∧ σ.1 2 3 = 30) ∨ (c = 3 ∧ (0 ≤ kd ∧ kd < 8) ∧ σ.1 2 3 < 30 ∧ ¬ (¬ dcl (eig v) FP.dconst0 ≤ 0 ∧ dcg (eig v) 4696837146684686336 ≤ 0))) (by decide) (by decide) (by decide) (T_X10_device_2 kd (eig v) σ (by omega) (by omega)) (fun v h2 w => ⟨_, _, ⟨w.1, rfl, rfl⟩, w.2⟩) (fun E h2 w => ⟨?_, w.2⟩) (fun a σ1 w => ⟨trivial, 1, by decide, ?_⟩) (fun c w => ⟨1, by decide, (T_X11_device 0 kd (eig v) σ (fun _ => by omega)).mono (fun v2 h2 w2 => ?_) (fun _ _ z => z)⟩)
    · rcases w.1 with ⟨q, r⟩ | ⟨q, r, u⟩ | ⟨q, r, u, x⟩
      · exact Or.inl ⟨r, Or.inl ⟨rfl, q⟩⟩
      · exact Or.inr (Or.inl ⟨u, Or.inr (Or.inl ⟨rfl, q, r⟩)⟩)
      · exact Or.inr (Or.inr ⟨x, Or.inr (Or.inr ⟨rfl, q, r, u⟩)⟩)
    · obtain ⟨⟨w1, w2, wz⟩, wa, ws⟩ := w
      have k := T_X11_device 0 kd (eig v) (outS σ1 a) (fun _ => by rw [ws]; show 0 ≤ σ.1 70 0 ∧ σ.1 70 0 ≤ 30; omega)
      refine k.mono (fun v2 h2 w3 => ?_) (fun _ _ z => z)
      have n0 : dCo (outS σ1 a) 0 kd (eig v) = 0 := by
        rw [ws]
        unfold dCo
        rw [if_neg (by omega)]
        show (if σ.1 70 0 = 30 then (2 : Int) else if ¬ dcl (eig v) FP.dconst0 ≤ 0 ∧ dcg (eig v) 4696837146684686336 ≤ 0 then 0 else 3) = 0
        rw [if_neg (by omega), if_pos wz]
      rcases w3 with ⟨_, w3, w4⟩ | ⟨w3, _⟩
      · subst wa ws
        exact ⟨_, _, (show σ.1 70 0 = σ.1 2 3 by omega), w3, w4, rfl, fun _ => (show σ.1 2 3 = σ.1 70 0 by omega), ⟨_, _, _, _, Inv_dev_2 h (by omega) w1 (eig_dev wz) rfl⟩⟩
      · exact absurd n0 w3
    · have n0 : dCo σ 0 kd (eig v) = c := by
        unfold dCo
        rcases w with ⟨q, r⟩ | ⟨q, r, u⟩ | ⟨q, r, u, x⟩
        · rw [if_pos (by omega), q]
        · rw [if_neg (by omega), if_pos (by omega), q]
        · rw [if_neg (by omega), if_neg (by omega), if_neg x, q]
      have c0 : c ≠ 0 := by omega
      rcases w2 with ⟨w2, _⟩ | ⟨_, w3, w4⟩
      · omega
      · rw [n0] at w4
        exact REND_bad c0 hI w3 w4
  have T9 : s = 1 → STEP (fun _ => True) mX10_device mX11_device (x13 σ) [Vi s, Vi kd, Vd (eig v)] σ := by
    intro hsi
    subst hsi
    have h0 : σ.1 9 3 = E := h.1.2.1.1.2.2.1
    have h1 : E ≤ 30 := h.1.2.1.1.2.2.2.1
    have h65 : σ.1 70 1 = E := h.1.2.1.2.2.1
    refine STEP_of (fun a σ1 => ((0 ≤ kd ∧ kd < 8) ∧ σ.1 9 3 < 30 ∧ ¬ dcl (eig v) FP.dconst0 ≤ 0 ∧ dcg (eig v) 4696837146684686336 ≤ 0) ∧ a = σ.1 9 3 ∧ σ1 = cDev_9 σ kd (eig v)) (fun c => (c = 1 ∧ ¬ (0 ≤ kd ∧ kd < 8)) ∨ (c = 2 ∧ (0 ≤ kd ∧ kd < 8) ∧ σ.1 9 3 = 30) ∨ (c = 3 ∧ (0 ≤ kd ∧ kd < 8) ∧ σ.1 9 3 < 30 ∧ ¬ (¬ dcl (eig v) FP.dconst0 ≤ 0 ∧ dcg (eig v) 4696837146684686336 ≤ 0))) (by decide) (by decide) (by decide) (T_X10_device_9 kd (eig v) σ (by omega) (by omega)) (fun v h2 w => ⟨_, _, ⟨w.1, rfl, rfl⟩, w.2⟩) (fun E h2 w => ⟨?_, w.2⟩) (fun a σ1 w => ⟨trivial, 1, by decide, ?_⟩) (fun c w => ⟨1, by decide, (T_X11_device 1 kd (eig v) σ (fun _ => by omega)).mono (fun v2 h2 w2 => ?_) (fun _ _ z => z)⟩)
    · rcases w.1 with ⟨q, r⟩ | ⟨q, r, u⟩ | ⟨q, r, u, x⟩
      · exact Or.inl ⟨r, Or.inl ⟨rfl, q⟩⟩
      · exact Or.inr (Or.inl ⟨u, Or.inr (Or.inl ⟨rfl, q, r⟩)⟩)
      · exact Or.inr (Or.inr ⟨x, Or.inr (Or.inr ⟨rfl, q, r, u⟩)⟩)
    · obtain ⟨⟨w1, w2, wz⟩, wa, ws⟩ := w
      have k := T_X11_device 1 kd (eig v) (outS σ1 a) (fun _ => by rw [ws]; show 0 ≤ σ.1 70 1 ∧ σ.1 70 1 ≤ 30; omega)
      refine k.mono (fun v2 h2 w3 => ?_) (fun _ _ z => z)
      have n0 : dCo (outS σ1 a) 1 kd (eig v) = 0 := by
        rw [ws]
        unfold dCo
        rw [if_neg (by omega)]
        show (if σ.1 70 1 = 30 then (2 : Int) else if ¬ dcl (eig v) FP.dconst0 ≤ 0 ∧ dcg (eig v) 4696837146684686336 ≤ 0 then 0 else 3) = 0
        rw [if_neg (by omega), if_pos wz]
      rcases w3 with ⟨_, w3, w4⟩ | ⟨w3, _⟩
      · subst wa ws
        exact ⟨_, _, (show σ.1 70 1 = σ.1 9 3 by omega), w3, w4, rfl, fun _ => (show σ.1 9 3 = σ.1 70 1 by omega), ⟨_, _, _, _, Inv_dev_9 h (by omega) w1 (eig_dev wz) rfl⟩⟩
      · exact absurd n0 w3
    · have n0 : dCo σ 1 kd (eig v) = c := by
        unfold dCo
        rcases w with ⟨q, r⟩ | ⟨q, r, u⟩ | ⟨q, r, u, x⟩
        · rw [if_pos (by omega), q]
        · rw [if_neg (by omega), if_pos (by omega), q]
        · rw [if_neg (by omega), if_neg (by omega), if_neg x, q]
      have c0 : c ≠ 0 := by omega
      rcases w2 with ⟨w2, _⟩ | ⟨_, w3, w4⟩
      · omega
      · rw [n0] at w4
        exact REND_bad c0 hI w3 w4
  by_cases q : s = 0
  · exact T2 q
  · exact T9 (by omega)
