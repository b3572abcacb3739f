-- one call of both: share, match, netMatch, differs, rounds, tried, tested
theorem eig_share {v : Int32} (h : ¬ dcl (eig v) FP.dconst0 < 0 ∧ dcg (eig v) FP.dconst1 ≤ 0) : (eig v).toNat ≤ 4607182418800017408 := by
  rcases eig_or v with w | w
  · have k := dcl_iff w (show SzG FP.dconst1 by unfold SzG; decide)
    have t : (FP.dconst1 : UInt64).toNat = 4607182418800017408 := by decide
    have := h.2
    by_cases q : dcg (eig v) FP.dconst1 < 0
    · have := k.2.2.1.mp q
      omega
    · have := k.2.2.2.mp (by omega)
      omega
  · have := neg_dc w (y := FP.dconst0) (by unfold SzG; decide)
    exact absurd this h.1
theorem Inv_share {σ τ : ga_S} {N D M E : Nat} {kd : Int} {z : UInt64} (h : Inv σ N D M E) (hz : z.toNat ≤ 4607182418800017408) (ex : ∀ c, c ∉ SCR → τ.1 c = σ.1 c) (e18 : τ.2 18 = ga_up (σ.2 18) kd z) (e72 : τ.2 72 = ga_up (σ.2 72) kd z) (h2 : ∀ c, c ≠ 18 → c ≠ 72 → τ.2 c = σ.2 c) (e63 : ∀ j : Int, j = 14 ∨ j = 15 ∨ j = 17 ∨ j = 18 → τ.1 63 j = σ.1 63 j) : Inv τ N D M E := by
  refine Inv_of h (fun c hc => ex c (fun w => hc (List.mem_cons_of_mem _ (List.mem_cons_of_mem _ w)))) h2 e63 ?_ ?_ ?_
  · unfold agG
    rw [ex 17 (by decide), ex 71 (by decide)]
    exact h.2.1.1
  · unfold agH
    rw [e18, e72]
    intro k k1 k2
    by_cases w : k = kd
    · rw [w, ga_up_at, ga_up_at]
    · rw [ga_up_ne _ _ w, ga_up_ne _ _ w]; exact h.2.1.2.1 k k1 k2
  · unfold shB
    rw [e72]
    intro k k1 k2
    exact ga_up_in (P := fun v : UInt64 => v.toNat ≤ 4607182418800017408) hz (h.2.1.2.2 k k1 k2)
theorem ST_share (kd : Int) (v : Int32) {σ : ga_S} (hI : IvO σ) : STEP (fun a => a = 0 ∨ a = 1) mX10_share mX11_share (x12 σ) [Vi kd, Vd (eig v)] σ := by
  obtain ⟨N, D, M, E, h⟩ := id hI
  refine STEP_of (fun x σ1 => ((0 ≤ kd ∧ kd < 8) ∧ ¬ dcl (eig v) FP.dconst0 < 0 ∧ dcg (eig v) FP.dconst1 ≤ 0) ∧ x = tv (¬ dcl (σ.2 18 kd) (eig v) = 0) ∧ σ1 = stD σ 18 (ga_up (σ.2 18) kd (eig v))) (fun c => (c = 1 ∧ ¬ (0 ≤ kd ∧ kd < 8)) ∨ (c = 2 ∧ (0 ≤ kd ∧ kd < 8) ∧ ¬ (¬ dcl (eig v) FP.dconst0 < 0 ∧ dcg (eig v) FP.dconst1 ≤ 0))) (by decide) (by decide) (by decide) (T_X10_share kd (eig v) σ) (fun v h2 w => ⟨_, _, ⟨w.1, rfl, rfl⟩, w.2⟩) (fun E h2 w => ⟨?_, w.2⟩) (fun x σ1 w => ⟨by rw [w.2.1]; exact tv01, 1, by decide, (T_X11_share kd (eig v) (outS σ1 x)).mono (fun v2 h2 w4 => ?_) (fun _ _ z => z)⟩) (fun c w => ⟨1, by decide, (T_X11_share kd (eig v) σ).mono (fun v2 h2 w4 => ?_) (fun _ _ z => z)⟩)
  · rcases w.1 with ⟨w1, w2⟩ | ⟨w1, w2, w3⟩
    · exact Or.inl ⟨w2, Or.inl ⟨rfl, w1⟩⟩
    · exact Or.inr ⟨w3, Or.inr ⟨rfl, w1, w2⟩⟩
  · obtain ⟨⟨hk, hz⟩, wa, ws⟩ := w
    have n0 : shCo kd (eig v) = 0 := by
      unfold shCo
      rw [if_neg (by omega), if_pos hz]
    have hz' := eig_share hz
    have e72 : (outS σ1 x).2 72 = σ.2 72 := by rw [ws]; rfl
    rw [e72, n0, ← h.2.1.2.1 kd hk.1 hk.2] at w4
    rcases w4 with ⟨_, w4, w5, w6⟩ | ⟨_, w4, w5, w6⟩ | ⟨w4, _⟩
    · have ea : (0 : Int) = x := by rw [wa, tvz (not_not_intro w4)]
      refine ⟨_, _, ea, w5, w6, rfl, fun _ => ea.symm, ⟨N, D, M, E, Inv_share (kd := kd) (z := eig v) h hz' (fun c hc => by rw [ws]; exact (exc_st (exc_st (exc_r (σ := σ)) (show (88 : Nat) ∈ SCR by decide)) (by decide)).1 c hc) (by rw [ws]; rfl) ?_ (fun c c1 c2 => by rw [ws]; exact if_neg c1) (fun j hj => by rw [ws]; exact cd0_j (σ := outS (stD σ 18 (ga_up (σ.2 18) kd (eig v))) x) (by omega))⟩⟩
      show (outS σ1 x).2 72 = _
      rw [e72]
      refine (ga_up_self ?_).symm
      have b := h.2.1.2.2 kd hk.1 hk.2
      rw [h.2.1.2.1 kd hk.1 hk.2] at w4
      exact UInt64.toNat_inj.mp ((dcl_iff (show SzG _ by unfold SzG; omega) (show SzG _ by unfold SzG; omega)).2.1.mp w4)
    · have ea : (1 : Int) = x := by rw [wa, tv1 w4]
      refine ⟨_, _, ea, w5, w6, rfl, fun _ => ea.symm, ⟨N, D, M, E, Inv_share (kd := kd) (z := eig v) h hz' (fun c hc => by rw [ws]; exact (exc_st (exc_st (exc_r (σ := σ)) (show (88 : Nat) ∈ SCR by decide)) (by decide)).1 c hc) (by rw [ws]; rfl) (by rw [ws]; rfl) (fun c c1 c2 => by rw [ws]; exact (if_neg c2).trans (if_neg c1)) (fun j hj => by rw [ws]; exact cd0_j (σ := outS (stD σ 18 (ga_up (σ.2 18) kd (eig v))) x) (by omega))⟩⟩
    · exact absurd rfl w4
  · have n0 : shCo kd (eig v) = c := by
      unfold shCo
      rcases w with ⟨q, r⟩ | ⟨q, r, u⟩
      · rw [if_pos r, q]
      · rw [if_neg (by omega), if_neg u, q]
    have c0 : c ≠ 0 := by omega
    rw [n0] at w4
    rcases w4 with ⟨w4, _⟩ | ⟨w4, _⟩ | ⟨_, w4, w5⟩
    · exact absurd w4 c0
    · exact absurd w4 c0
    · exact REND_bad c0 hI w4 w5
theorem REND_same {σ : ga_S} {a b : Int} (hI : IvO σ) {v : Option ga_V} {h : ga_H} (e : b = a) (hv : v = some (Vi b)) (hh : h = HP (cd0 (outS σ a) 0)) : REND 0 (fun b => b = a) v h := by
  obtain ⟨N, D, M, E, k⟩ := hI
  exact ⟨b, cd0 (outS σ a) 0, e, hv, hh, rfl, fun _ => e.symm, ⟨N, D, M, E, Inv_cd0 (Inv_out k)⟩⟩
theorem ST_match (s y : Int) {σ : ga_S} (hI : IvO σ) : STEP (fun _ => True) mX10_match mX11_match (x1I σ) [Vi s, Vi y] σ := by
  obtain ⟨N, D, M, E, h⟩ := id hI
  have B : ∀ c, c = 1 → ¬ maP σ s y → (s = 0 ∨ s = 1 → σ.1 70 s ≤ 30) → ∃ tR, tR ≤ 10 ∧ ga_Mt tR 0 0 mX11_match [Vr 63, Vi s, Vi y] (HP σ) (REND c (fun _ => True)) ga_nox := fun c hc hp hb => ⟨_, by decide, (T_X11_match s y σ hb).mono (fun v2 h2 w => by
    subst hc
    rcases w with ⟨w, _⟩ | ⟨_, w2, w3⟩
    · exact absurd w hp
    · exact REND_bad (by decide) hI w2 w3) (fun _ _ z => z)⟩
  by_cases hx : s < 0 ∨ 1 < s
  · exact STEP_of (fun _ _ => False) (fun c => c = 1) (by decide) (by decide) (by decide) (T_X10_match_X s y σ hx) (fun _ _ z => z.elim) (fun E h z => ⟨⟨z.1, rfl⟩, z.2⟩) (fun _ _ z => z.elim) (fun c hc => B c hc (fun w => by have := w.1; omega) (fun w => by omega))
  have T2 : s = 0 → STEP (fun _ => True) mX10_match mX11_match (x1I σ) [Vi s, Vi y] σ := by
    intro hsi
    subst hsi
    have h0 : σ.1 2 3 = D := h.1.1.1.1.2.2.1
    have h1 : D ≤ 30 := h.1.1.1.1.2.2.2.1
    have h70 : σ.1 70 0 = D := h.1.1.1.2.2.1
    refine STEP_of (fun a σ1 => (0 ≤ y ∧ y < σ.1 2 3) ∧ a = (if σ.1 7 y = 0 then σ.1 56 y else -1) ∧ σ1 = σ) (fun c => c = 1 ∧ ¬ (0 ≤ y ∧ y < σ.1 2 3)) (by decide) (by decide) (by decide) (T_X10_match_2 y σ (by omega)) (fun v h2 w => ⟨_, _, ⟨w.1, rfl, rfl⟩, w.2⟩) (fun E h2 w => ⟨⟨w.2.1, rfl, w.1⟩, w.2.2⟩) (fun a σ1 w => ⟨trivial, 2, by decide, (T_X11_match 0 y (outS σ1 a) (fun _ => by rw [w.2.2]; show σ.1 70 0 ≤ 30; omega)).mono (fun v2 h2 w4 => ?_) (fun _ _ z => z)⟩) (fun c w => B c w.1 (fun z => w.2 (by have := z.2; omega)) (fun _ => by omega))
    obtain ⟨w1, wa, ws⟩ := w
    subst ws
    have hp : maP (outS σ1 a) 0 y := ⟨by decide, w1.1, (show y < σ1.1 70 0 by omega)⟩
    rcases w4 with ⟨_, w4, w5⟩ | ⟨w4, _⟩
    · refine REND_same hI ?_ w4 w5
      show (if σ1.1 63 18 = 0 ∨ ¬ σ1.1 68 (30 * 0 + y) = 0 then -1 else σ1.1 78 (30 * 0 + y)) = a
      rw [wa, ← (h.1.1.1.2.2.2.2.1 y w1.1 (by omega)).2.1]
      have k := h.2.2.2.2
      by_cases q : σ1.1 63 18 = 0
      · rw [if_pos (Or.inl q)]
        have := ((k.2.1 q).1 y w1.1 (by omega)).1
        rw [this]
        split <;> rfl
      · have := ((k.2.2 q).1 y w1.1 (by omega)).1
        by_cases g : σ1.1 7 y = 0
        · rw [if_neg (by omega), if_pos g, this]
          first
          | rw [show 30 * (0 : Int) + y = y by omega]
          | rw [show 30 * (1 : Int) + y = 30 + y by omega]
        · rw [if_pos (Or.inr g), if_neg g]
    · exact absurd hp w4
  have T9 : s = 1 → STEP (fun _ => True) mX10_match mX11_match (x1I σ) [Vi s, Vi y] σ := by
    intro hsi
    subst hsi
    have h0 : σ.1 9 3 = E := h.1.2.1.1.2.2.1
    have h1 : E ≤ 30 := h.1.2.1.1.2.2.2.1
    have h70 : σ.1 70 1 = E := h.1.2.1.2.2.1
    refine STEP_of (fun a σ1 => (0 ≤ y ∧ y < σ.1 9 3) ∧ a = (if σ.1 14 y = 0 then σ.1 57 y else -1) ∧ σ1 = σ) (fun c => c = 1 ∧ ¬ (0 ≤ y ∧ y < σ.1 9 3)) (by decide) (by decide) (by decide) (T_X10_match_9 y σ (by omega)) (fun v h2 w => ⟨_, _, ⟨w.1, rfl, rfl⟩, w.2⟩) (fun E h2 w => ⟨⟨w.2.1, rfl, w.1⟩, w.2.2⟩) (fun a σ1 w => ⟨trivial, 2, by decide, (T_X11_match 1 y (outS σ1 a) (fun _ => by rw [w.2.2]; show σ.1 70 1 ≤ 30; omega)).mono (fun v2 h2 w4 => ?_) (fun _ _ z => z)⟩) (fun c w => B c w.1 (fun z => w.2 (by have := z.2; omega)) (fun _ => by omega))
    obtain ⟨w1, wa, ws⟩ := w
    subst ws
    have hp : maP (outS σ1 a) 1 y := ⟨by decide, w1.1, (show y < σ1.1 70 1 by omega)⟩
    rcases w4 with ⟨_, w4, w5⟩ | ⟨w4, _⟩
    · refine REND_same hI ?_ w4 w5
      show (if σ1.1 63 18 = 0 ∨ ¬ σ1.1 68 (30 * 1 + y) = 0 then -1 else σ1.1 78 (30 * 1 + y)) = a
      rw [wa, ← (h.1.2.1.2.2.2.2.1 y w1.1 (by omega)).2.1]
      have k := h.2.2.2.2
      by_cases q : σ1.1 63 18 = 0
      · rw [if_pos (Or.inl q)]
        have := ((k.2.1 q).1 y w1.1 (by omega)).2
        rw [this]
        split <;> rfl
      · have := ((k.2.2 q).1 y w1.1 (by omega)).2
        by_cases g : σ1.1 14 y = 0
        · rw [if_neg (by omega), if_pos g, this]
          first
          | rw [show 30 * (0 : Int) + y = y by omega]
          | rw [show 30 * (1 : Int) + y = 30 + y by omega]
        · rw [if_pos (Or.inr g), if_neg g]
    · exact absurd hp w4
  by_cases q : s = 0
  · exact T2 q
  · exact T9 (by omega)
theorem ST_netMatch (y : Int) {σ : ga_S} (hI : IvO σ) : STEP (fun _ => True) mX10_netMatch mX11_netMatch (x1I σ) [Vi y] σ := by
  obtain ⟨N, D, M, E, h⟩ := id hI
  have h00 : σ.1 2 0 = N := h.1.1.1.1.1
  have h1 : N ≤ 40 := h.1.1.1.1.2.1
  have h65 : σ.1 65 0 = N := h.1.1.1.2.1
  refine STEP_of (fun a σ1 => (0 ≤ y ∧ y < σ.1 2 0) ∧ a = σ.1 58 y ∧ σ1 = σ) (fun c => c = 1 ∧ ¬ (0 ≤ y ∧ y < σ.1 2 0)) (by decide) (by decide) (by decide) (T_X10_netMatch y σ (by omega)) (fun v h2 w => ⟨_, _, ⟨w.1, rfl, rfl⟩, w.2⟩) (fun E h2 w => ⟨⟨w.2.1, rfl, w.1⟩, w.2.2⟩) (fun a σ1 w => ⟨trivial, 2, by decide, (T_X11_netMatch y (outS σ1 a) (by rw [w.2.2]; show σ.1 65 0 ≤ 40; omega)).mono (fun v2 h2 w4 => ?_) (fun _ _ z => z)⟩) (fun c w => ⟨2, by decide, (T_X11_netMatch y σ (by omega)).mono (fun v2 h2 w4 => ?_) (fun _ _ z => z)⟩)
  · obtain ⟨w1, wa, ws⟩ := w
    subst ws
    rcases w4 with ⟨_, w4, w5⟩ | ⟨w4, _⟩
    · refine REND_same hI ?_ w4 w5
      show (if σ1.1 63 18 = 0 then -1 else σ1.1 79 y) = a
      rw [wa]
      have k := h.2.2.2.2
      by_cases q : σ1.1 63 18 = 0
      · rw [if_pos q]
        exact ((k.2.1 q).2 y w1.1 (by omega)).1.symm
      · rw [if_neg q]
        exact ((k.2.2 q).2.1 y w1.1 (by omega)).symm
    · exact absurd (show 0 ≤ y ∧ y < σ1.1 65 0 by omega) w4
  · obtain ⟨w1, hp⟩ := w
    subst w1
    rcases w4 with ⟨w5, _⟩ | ⟨_, w5, w6⟩
    · exact absurd w5 (by omega)
    · exact REND_bad (by decide) hI w5 w6
theorem ST_differs (y w : Int) {σ : ga_S} (hI : IvO σ) : STEP (fun _ => True) mX10_differs mX11_differs (x1I σ) [Vi y, Vi w] σ := by
  obtain ⟨N, D, M, E, h⟩ := id hI
  obtain ⟨d1, d2, d3, d4, d5⟩ := h.2.2.2.1
  refine STEP_of (fun a σ1 => ((0 ≤ y ∧ y < σ.1 60 0) ∧ 0 ≤ w ∧ w < 4) ∧ a = σ.1 61 (y * 4 + w) ∧ σ1 = σ) (fun c => c = 1 ∧ ¬ ((0 ≤ y ∧ y < σ.1 60 0) ∧ 0 ≤ w ∧ w < 4)) (by decide) (by decide) (by decide) (T_X10_differs y w σ (by omega) (by omega)) (fun v h2 u => ⟨_, _, ⟨u.1, rfl, rfl⟩, u.2⟩) (fun E h2 u => ⟨⟨u.2.1, rfl, u.1⟩, u.2.2⟩) (fun a σ1 u => ⟨trivial, 0, by decide, (T_X11_differs y w (outS σ1 a) (by rw [u.2.2]; show σ.1 63 17 ≤ 200; omega)).mono (fun v2 h2 w4 => ?_) (fun _ _ z => z)⟩) (fun c u => ⟨0, by decide, (T_X11_differs y w σ (by omega)).mono (fun v2 h2 w4 => ?_) (fun _ _ z => z)⟩)
  · obtain ⟨w1, wa, ws⟩ := u
    subst ws
    rcases w4 with ⟨_, w4, w5⟩ | ⟨w4, _⟩
    · refine REND_same hI ?_ w4 w5
      show σ1.1 77 (y * 4 + w) = a
      rw [wa]
      exact (d5 _ (by omega) (by omega)).symm
    · exact absurd (show (0 ≤ y ∧ y < σ1.1 63 17) ∧ 0 ≤ w ∧ w < 4 by omega) w4
  · obtain ⟨w1, hp⟩ := u
    subst w1
    unfold dfP at w4
    rcases w4 with ⟨w5, _⟩ | ⟨_, w5, w6⟩
    · exact absurd w5 (by omega)
    · exact REND_bad (by decide) hI w5 w6
