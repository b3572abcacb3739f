-- one call of both: port, swap, share, match, netMatch, differs
theorem Inv_of {σ τ : ga_S} {N D M E : Nat} (h : Inv σ N D M E) (h1 : ∀ c, c ∉ 17 :: 71 :: SCR → τ.1 c = σ.1 c) (h2 : ∀ c, c ≠ 18 → c ≠ 72 → τ.2 c = σ.2 c) (h3 : ∀ j : Int, j = 14 ∨ j = 15 ∨ j = 17 ∨ j = 18 → τ.1 63 j = σ.1 63 j) (hg : agG (τ.1 17) τ) (hH : agH (τ.2 18) τ) (hs : shB τ) : Inv τ N D M E := by
  obtain ⟨⟨a1, a2⟩, ⟨b1, b2, b3⟩, ⟨c1, c2, c3, c4⟩, ⟨d1, d2, d3, d4, d5⟩, k1, k2, k3⟩ := h
  have e : ∀ c, c ∉ 17 :: 71 :: SCR → τ.1 c = σ.1 c := h1
  have hc : ∀ c, 64 ≤ c → c ≤ 70 → τ.1 c = σ.1 c := fun c a b => e c (by
    rcases (show c = 64 ∨ c = 65 ∨ c = 66 ∨ c = 67 ∨ c = 68 ∨ c = 69 ∨ c = 70 by omega) with q | q | q | q | q | q | q <;> subst q <;> decide)
  refine ⟨⟨SD_cg (e 2 (by decide)) (e 3 (by decide)) (e 5 (by decide)) (e 7 (by decide)) (e 8 (by decide)) (h2 6 (by decide) (by decide)) hc (h2 67 (by decide) (by decide)) a1, SD_cg (e 9 (by decide)) (e 10 (by decide)) (e 12 (by decide)) (e 14 (by decide)) (e 15 (by decide)) (h2 13 (by decide) (by decide)) hc (h2 67 (by decide) (by decide)) a2⟩, ⟨hg, hH, hs⟩, ⟨?_, ?_, ?_, ?_⟩, ⟨?_, ?_, ?_, ?_, ?_⟩, ?_, ?_, ?_⟩
  · rw [e 66 (by decide)]; exact c1
  · rw [e 69 (by decide)]; exact c2
  · rw [e 64 (by decide)]; exact c3
  · exact (cg_unq (e 64 (by decide)) (e 65 (by decide))).mpr c4
  · rw [e 0 (by decide), h3 14 (by decide), h3 15 (by decide)]; exact d1
  · rw [e 60 (by decide), h3 17 (by decide)]; exact d2
  · rw [h3 17 (by decide)]; exact d3
  · rw [h3 17 (by decide)]; exact d4
  · rw [h3 17 (by decide), e 61 (by decide), e 77 (by decide)]; exact d5
  · rw [e 55 (by decide), h3 18 (by decide)]; exact k1
  · rw [h3 18 (by decide), e 56 (by decide), e 57 (by decide), e 58 (by decide), e 59 (by decide)]; exact k2
  · unfold prs at k3 ⊢
    rw [h3 18 (by decide), e 56 (by decide), e 57 (by decide), e 58 (by decide), e 59 (by decide), e 78 (by decide), e 79 (by decide), e 66 (by decide)]; exact k3
theorem unq_i {σ : ga_S} (h : unq σ) {i : Int} (hi : i = 0 ∨ i = 1) (x y : Int) (x1 : 0 ≤ x) (x2 : x < 40) (y1 : 0 ≤ y) (y2 : y < 40) (a : prtd σ (40 * i + x)) (b : prtd σ (40 * i + y)) (e : σ.1 64 (40 * i + x) = σ.1 64 (40 * i + y)) : x = y := by
  rcases hi with q | q <;> subst q
  · rw [show (40 : Int) * 0 + x = x by omega] at a e
    rw [show (40 : Int) * 0 + y = y by omega] at b e
    exact h.1 x y x1 x2 y1 y2 a b e
  · exact h.2 x y x1 x2 y1 y2 a b e
theorem fst_ot {σ : ga_S} {port : Int → Int} {N : Nat} {i n y : Int} (hu : unq σ) (hi : i = 0 ∨ i = 1) (hN : N ≤ 40) (h65 : σ.1 65 i = N) (hp : ∀ m : Int, 0 ≤ m → m < N → port m = σ.1 64 (40 * i + m)) (n1 : 0 ≤ n) (n2 : n < N) (hy : 0 ≤ y) : (firstF (fun n => decide (port n ≠ -1 ∧ port n = y)) N 0 = -1 ∨ firstF (fun n => decide (port n ≠ -1 ∧ port n = y)) N 0 = n) ↔ ¬ otP σ i n y N := by
  have pd : ∀ m : Int, 0 ≤ m → m < N → σ.1 64 (40 * i + m) = y → prtd σ (40 * i + m) := fun m m1 m2 e => ⟨by rw [show (40 * i + m) / 40 = i by omega, show (40 * i + m) % 40 = m by omega, h65]; exact m2, by omega⟩
  rcases firstF_is (fun n => decide (port n ≠ -1 ∧ port n = y)) N 0 (by decide) with ⟨f, g⟩ | ⟨f1, f2, f3⟩
  · refine ⟨fun _ w => ?_, fun _ => Or.inl f⟩
    obtain ⟨m, m1, m2, m3⟩ := w
    have := of_decide_eq_false (g m (by omega) (by omega))
    rw [hp m (by omega) (by omega), m3] at this
    exact this ⟨by omega, rfl⟩
  · have t := of_decide_eq_true f3
    generalize hF : firstF (fun n => decide (port n ≠ -1 ∧ port n = y)) N 0 = F at *
    rw [hp F (by omega) (by omega)] at t
    constructor
    · intro w z
      obtain ⟨m, m1, m2, m3⟩ := z
      have fn : F = n := by omega
      subst fn
      exact m2 (unq_i hu hi m F (by omega) (by omega) (by omega) (by omega) (pd m (by omega) (by omega) m3) (pd F (by omega) (by omega) t.2) (by omega))
    · intro w
      refine Or.inr (Classical.byContradiction fun q => w ⟨F.toNat, by omega, by omega, ?_⟩)
      rw [Int.toNat_of_nonneg f1]
      exact t.2
theorem cg_otP {σ τ : ga_S} (h : τ.1 64 = σ.1 64) {s n y : Int} {c : Nat} : otP τ s n y c ↔ otP σ s n y c := by
  unfold otP
  rw [h]
theorem ST_port (s n y : Int) {σ : ga_S} (hI : IvO σ) : STEP (fun a => a = 0 ∨ a = 1) mX10_port mX11_port (x12 σ) [Vi s, Vi n, Vi y] σ := by
  obtain ⟨N, D, M, E, h⟩ := id hI
  have B : ∀ c, c ≠ 0 → poCo σ s n y = c → (s = 0 ∨ s = 1 → 0 ≤ σ.1 65 s ∧ σ.1 65 s ≤ 40) → ∃ tR, tR ≤ 10 ∧ ga_Mt tR 0 0 mX11_port [Vr 63, Vi s, Vi n, Vi y] (HP σ) (REND c (fun _ => True)) ga_nox := fun c hc hp hb => ⟨_, by decide, (T_X11_port s n y σ hb).mono (fun v2 h2 w => by
    rw [hp] at w
    rcases w with ⟨w, _⟩ | ⟨_, w2, w3⟩
    · exact absurd w hc
    · exact REND_bad hc hI w2 w3) (fun _ _ z => z)⟩
  by_cases hx : s < 0 ∨ 1 < s
  · exact STEP_of (fun _ _ => False) (fun c => c = 1) (by decide) (by decide) (by decide) (T_X10_port_X s n y σ hx) (fun _ _ z => z.elim) (fun E h z => ⟨Or.inl ⟨z.1, rfl⟩, z.2⟩) (fun _ _ z => z.elim) (fun c hc => B c (by omega) (by unfold poCo; rw [if_pos (by omega), hc]) (fun w => by omega))
  have T2 : s = 0 → STEP (fun a => a = 0 ∨ a = 1) mX10_port mX11_port (x12 σ) [Vi s, Vi n, Vi y] σ := by
    intro hsi
    subst hsi
    have h00 : σ.1 2 0 = N := h.1.1.1.1.1
    have h1 : N ≤ 40 := h.1.1.1.1.2.1
    have h65 : σ.1 65 0 = N := h.1.1.1.2.1
    have hp := h.1.1.1.2.2.2.1
    have eq : 0 ≤ n → n < N → 0 ≤ y → ((firstF (fun n => decide (σ.1 3 n ≠ -1 ∧ σ.1 3 n = y)) N 0 = -1 ∨ firstF (fun n => decide (σ.1 3 n ≠ -1 ∧ σ.1 3 n = y)) N 0 = n) ↔ ¬ otP σ 0 n y N) := fun n1 n2 hy => fst_ot h.2.2.1.2.2.2 (by decide) h1 h65 hp n1 n2 hy
    refine STEP_of (fun a σ1 => ((0 ≤ n ∧ n < N) ∧ 0 ≤ y ∧ ¬ otP σ 0 n y N) ∧ a = tv (σ.1 3 n = -1) ∧ σ1 = stI σ 3 (ga_up (σ.1 3) n y)) (fun c => (c = 1 ∧ ¬ (0 ≤ n ∧ n < N)) ∨ (c = 2 ∧ (0 ≤ n ∧ n < N) ∧ (y < 0 ∨ otP σ 0 n y N))) (by decide) (by decide) (by decide) (T_X10_port_2 n y σ N h00 h1) (fun v h2 w => ⟨_, _, ⟨?_, rfl, rfl⟩, w.2⟩) (fun E h2 w => ⟨?_, w.2⟩) (fun a σ1 w => ⟨by rw [w.2.1]; exact tv01, 2, by decide, ?_⟩) (fun c w => B c (by omega) ?_ (fun _ => by omega))
    · obtain ⟨⟨⟨w1, w2⟩, w3, w4⟩, _⟩ := w
      rw [h00] at w2
      exact ⟨⟨w1, w2⟩, w3, (eq w1 w2 w3).mp w4⟩
    · have w1 := w.1
      rw [h00] at w1
      rcases w1 with ⟨w1, w2⟩ | ⟨w1, w2, w3⟩
      · exact Or.inl ⟨w2, Or.inl ⟨rfl, w1⟩⟩
      · refine Or.inr ⟨w3, Or.inr ⟨rfl, w1, ?_⟩⟩
        by_cases hy : 0 ≤ y
        · exact Or.inr (Classical.byContradiction fun z => w2 ⟨hy, (eq w1.1 w1.2 hy).mpr z⟩)
        · exact Or.inl (by omega)
    · obtain ⟨⟨w1, w2, w3⟩, wa, ws⟩ := w
      have k9 := T_X11_port 0 n y (outS σ1 a) (fun _ => by rw [ws]; show 0 ≤ σ.1 65 0 ∧ σ.1 65 0 ≤ 40; omega)
      refine k9.mono (fun v2 h2 w4 => ?_) (fun _ _ z => z)
      have n0 : poCo (outS σ1 a) 0 n y = 0 := by
        unfold poCo
        rw [ws]
        show (if ¬ ((((0 : Int) = 0) ∨ ((0 : Int) = 1)) ∧ 0 ≤ n ∧ n < σ.1 65 0) then (1 : Int) else tif (y < 0 ∨ otP (outS (stI σ 3 (ga_up (σ.1 3) n y)) a) 0 n y (σ.1 65 0).toNat) 2 0) = 0
        rw [if_neg (by omega), tif0]
        intro z
        rcases z with z | z
        · omega
        · rw [h65, Int.toNat_natCast] at z
          exact w3 ((cg_otP rfl).mp z)
      have ea : tv (σ.1 64 (40 * 0 + n) = -1) = a := by
        rw [wa, ← hp n w1.1 w1.2]
      rcases w4 with ⟨_, w5, w6⟩ | ⟨w5, _⟩
      · subst ws
        refine ⟨_, _, ea, w5, w6, rfl, fun _ => ea.symm, ⟨_, _, _, _, Inv_port_2 h w1 w2 (fun m m1 m2 m3 m4 => w3 ⟨m.toNat, by omega, by omega, ?_⟩) rfl⟩⟩
        rw [Int.toNat_of_nonneg m1]
        exact m4
      · exact absurd n0 w5
    · unfold poCo
      rcases w with ⟨q, r⟩ | ⟨q, r, u⟩
      · rw [if_pos (by omega), q]
      · rw [if_neg (by omega), h65, Int.toNat_natCast, tif1 u, q]
  have T9 : s = 1 → STEP (fun a => a = 0 ∨ a = 1) mX10_port mX11_port (x12 σ) [Vi s, Vi n, Vi y] σ := by
    intro hsi
    subst hsi
    have h00 : σ.1 9 0 = M := h.1.2.1.1.1
    have h1 : M ≤ 40 := h.1.2.1.1.2.1
    have h65 : σ.1 65 1 = M := h.1.2.1.2.1
    have hp := h.1.2.1.2.2.2.1
    have eq : 0 ≤ n → n < M → 0 ≤ y → ((firstF (fun n => decide (σ.1 10 n ≠ -1 ∧ σ.1 10 n = y)) M 0 = -1 ∨ firstF (fun n => decide (σ.1 10 n ≠ -1 ∧ σ.1 10 n = y)) M 0 = n) ↔ ¬ otP σ 1 n y M) := fun n1 n2 hy => fst_ot h.2.2.1.2.2.2 (by decide) h1 h65 hp n1 n2 hy
    refine STEP_of (fun a σ1 => ((0 ≤ n ∧ n < M) ∧ 0 ≤ y ∧ ¬ otP σ 1 n y M) ∧ a = tv (σ.1 10 n = -1) ∧ σ1 = stI σ 10 (ga_up (σ.1 10) n y)) (fun c => (c = 1 ∧ ¬ (0 ≤ n ∧ n < M)) ∨ (c = 2 ∧ (0 ≤ n ∧ n < M) ∧ (y < 0 ∨ otP σ 1 n y M))) (by decide) (by decide) (by decide) (T_X10_port_9 n y σ M h00 h1) (fun v h2 w => ⟨_, _, ⟨?_, rfl, rfl⟩, w.2⟩) (fun E h2 w => ⟨?_, w.2⟩) (fun a σ1 w => ⟨by rw [w.2.1]; exact tv01, 2, by decide, ?_⟩) (fun c w => B c (by omega) ?_ (fun _ => by omega))
    · obtain ⟨⟨⟨w1, w2⟩, w3, w4⟩, _⟩ := w
      rw [h00] at w2
      exact ⟨⟨w1, w2⟩, w3, (eq w1 w2 w3).mp w4⟩
    · have w1 := w.1
      rw [h00] at w1
      rcases w1 with ⟨w1, w2⟩ | ⟨w1, w2, w3⟩
      · exact Or.inl ⟨w2, Or.inl ⟨rfl, w1⟩⟩
      · refine Or.inr ⟨w3, Or.inr ⟨rfl, w1, ?_⟩⟩
        by_cases hy : 0 ≤ y
        · exact Or.inr (Classical.byContradiction fun z => w2 ⟨hy, (eq w1.1 w1.2 hy).mpr z⟩)
        · exact Or.inl (by omega)
    · obtain ⟨⟨w1, w2, w3⟩, wa, ws⟩ := w
      have k9 := T_X11_port 1 n y (outS σ1 a) (fun _ => by rw [ws]; show 0 ≤ σ.1 65 1 ∧ σ.1 65 1 ≤ 40; omega)
      refine k9.mono (fun v2 h2 w4 => ?_) (fun _ _ z => z)
      have n0 : poCo (outS σ1 a) 1 n y = 0 := by
        unfold poCo
        rw [ws]
        show (if ¬ ((((1 : Int) = 0) ∨ ((1 : Int) = 1)) ∧ 0 ≤ n ∧ n < σ.1 65 1) then (1 : Int) else tif (y < 0 ∨ otP (outS (stI σ 10 (ga_up (σ.1 10) n y)) a) 1 n y (σ.1 65 1).toNat) 2 0) = 0
        rw [if_neg (by omega), tif0]
        intro z
        rcases z with z | z
        · omega
        · rw [h65, Int.toNat_natCast] at z
          exact w3 ((cg_otP rfl).mp z)
      have ea : tv (σ.1 64 (40 * 1 + n) = -1) = a := by
        rw [wa, ← hp n w1.1 w1.2]
      rcases w4 with ⟨_, w5, w6⟩ | ⟨w5, _⟩
      · subst ws
        refine ⟨_, _, ea, w5, w6, rfl, fun _ => ea.symm, ⟨_, _, _, _, Inv_port_9 h w1 w2 (fun m m1 m2 m3 m4 => w3 ⟨m.toNat, by omega, by omega, ?_⟩) rfl⟩⟩
        rw [Int.toNat_of_nonneg m1]
        exact m4
      · exact absurd n0 w5
    · unfold poCo
      rcases w with ⟨q, r⟩ | ⟨q, r, u⟩
      · rw [if_pos (by omega), q]
      · rw [if_neg (by omega), h65, Int.toNat_natCast, tif1 u, q]
  by_cases q : s = 0
  · exact T2 q
  · exact T9 (by omega)
theorem unF_in {f g : Int → Int} (h : ∀ j : Int, 0 ≤ j → j < 32 → f j = g j ∧ 0 ≤ g j ∧ g j < 4) {kd a b : Int} (a1 : 0 ≤ kd * 4 + a) (a2 : kd * 4 + a < 32) (b1 : 0 ≤ kd * 4 + b) (b2 : kd * 4 + b < 32) : ∀ j : Int, 0 ≤ j → j < 32 → unF f kd (f (kd * 4 + a)) (f (kd * 4 + b)) 4 j = unF g kd (g (kd * 4 + a)) (g (kd * 4 + b)) 4 j ∧ 0 ≤ unF g kd (g (kd * 4 + a)) (g (kd * 4 + b)) 4 j ∧ unF g kd (g (kd * 4 + a)) (g (kd * 4 + b)) 4 j < 4 := by
  intro j j1 j2
  have ka := h _ a1 a2
  have kb := h _ b1 b2
  have kj := h j j1 j2
  rw [ka.1, kb.1]
  unfold unF imin
  rw [kj.1]
  refine ⟨rfl, ?_⟩
  split
  · split
    · exact ka.2
    · exact kb.2
  · exact kj.2
theorem unF_same {f : Int → Int} {kd a : Int} : unF f kd a a 4 = f := by
  funext j
  unfold unF imin
  split
  · rename_i w
    rw [if_pos (by omega)]
    omega
  · rfl
theorem unS_17 {σ : ga_S} {kd a b : Int} : (unS σ kd a b).1 17 = unF (σ.1 17) kd (σ.1 17 (kd * 4 + a)) (σ.1 17 (kd * 4 + b)) 4 := by
  unfold unS
  split
  · rename_i w
    rw [w, unF_same]
  · rfl
theorem unS_ex {σ : ga_S} {kd a b : Int} : exc [17] σ (unS σ kd a b) := by
  unfold unS
  split
  · exact exc_r
  · exact exc_st exc_r (by decide)
theorem Inv_swap {σ τ : ga_S} {N D M E : Nat} {kd a b x : Int} (h : Inv σ N D M E) (hp : swP kd a b) (hτ : τ = swS (outS (unS σ kd a b) x) kd a b) : Inv τ N D M E := by
  have ex0 := unS_ex (σ := σ) (kd := kd) (a := a) (b := b)
  have e71 : τ.1 71 = unF (σ.1 71) kd (σ.1 71 (kd * 4 + a)) (σ.1 71 (kd * 4 + b)) 4 := by
    rw [hτ]
    show unF ((unS σ kd a b).1 71) kd ((unS σ kd a b).1 71 (kd * 4 + a)) ((unS σ kd a b).1 71 (kd * 4 + b)) 4 = _
    rw [ex0.1 71 (by decide)]
  have e17 : τ.1 17 = unF (σ.1 17) kd (σ.1 17 (kd * 4 + a)) (σ.1 17 (kd * 4 + b)) 4 := by
    rw [hτ]
    exact unS_17
  have f2 : τ.2 = σ.2 := by rw [hτ]; exact ex0.2
  have e63 : ∀ j : Int, j = 14 ∨ j = 15 ∨ j = 17 ∨ j = 18 → τ.1 63 j = σ.1 63 j := fun j hj => by
    rw [hτ]
    refine (cd0_j (σ := outS (unS σ kd a b) x) (by omega)).trans ?_
    show (unS σ kd a b).1 63 j = _
    rw [ex0.1 63 (by decide)]
  have ex1 : exc (17 :: 71 :: SCR) (unS σ kd a b) τ := by
    rw [hτ]
    exact exc_st (exc_st (exc_st exc_r (by decide)) (by decide)) (by decide)
  have ex : ∀ c, c ∉ 17 :: 71 :: SCR → τ.1 c = σ.1 c := fun c hc => (ex1.1 c hc).trans (ex0.1 c (fun w => hc (by rw [List.mem_singleton.mp w]; decide)))
  refine Inv_of h ex (fun c _ _ => by rw [f2]) e63 ?_ ?_ ?_
  · unfold agG
    rw [e17, e71]
    obtain ⟨⟨p1, p2⟩, ⟨p3, p4⟩, p5, p6⟩ := hp
    exact unF_in h.2.1.1 (by omega) (by omega) (by omega) (by omega)
  · unfold agH; rw [f2]; exact h.2.1.2.1
  · unfold shB; rw [f2]; exact h.2.1.2.2
theorem ST_swap (kd a b : Int) {σ : ga_S} (hI : IvO σ) : STEP (fun a => a = 0 ∨ a = 1) mX10_swap mX11_swap (x1I σ) [Vi kd, Vi a, Vi b] σ := by
  obtain ⟨N, D, M, E, h⟩ := id hI
  refine STEP_of (fun x σ1 => swP kd a b ∧ x = tv (σ.1 17 (kd * 4 + a) ≠ σ.1 17 (kd * 4 + b)) ∧ σ1 = unS σ kd a b) (fun c => c = 1 ∧ ¬ swP kd a b) (by decide) (by decide) (by decide) (T_X10_swap kd a b σ) (fun v h2 w => ⟨_, _, ⟨w.1, rfl, rfl⟩, w.2⟩) (fun E h2 w => ⟨⟨w.2.1, rfl, w.1⟩, w.2.2⟩) (fun x σ1 w => ⟨by rw [w.2.1]; exact tv01, 1, by decide, (T_X11_swap kd a b (outS σ1 x)).mono (fun v2 h2 w4 => ?_) (fun _ _ z => z)⟩) (fun c w => ⟨1, by decide, (T_X11_swap kd a b σ).mono (fun v2 h2 w4 => ?_) (fun _ _ z => z)⟩)
  · obtain ⟨hp, wa, ws⟩ := w
    rcases w4 with ⟨_, w5, w6⟩ | ⟨w5, _⟩
    · have ea : tv ((outS σ1 x).1 71 (kd * 4 + a) ≠ (outS σ1 x).1 71 (kd * 4 + b)) = x := by
        have e : (outS σ1 x).1 71 = σ.1 71 := by rw [ws]; exact unS_ex.1 71 (by decide)
        obtain ⟨⟨p1, p2⟩, ⟨p3, p4⟩, p5, p6⟩ := hp
        rw [e, wa, (h.2.1.1 (kd * 4 + a) (by omega) (by omega)).1, (h.2.1.1 (kd * 4 + b) (by omega) (by omega)).1]
      refine ⟨_, _, ea, w5, w6, rfl, fun _ => ea.symm, ⟨_, _, _, _, Inv_swap h hp (by rw [ws])⟩⟩
    · exact absurd hp w5
  · obtain ⟨w1, hp⟩ := w
    subst w1
    rcases w4 with ⟨w5, _⟩ | ⟨_, w5, w6⟩
    · exact absurd w5 hp
    · exact REND_bad (by decide) hI w5 w6
