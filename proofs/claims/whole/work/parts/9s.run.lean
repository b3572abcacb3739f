-- one call of both: run
def okR (σ : ga_S) (N D M E K L : Nat) (x : Int) (a : Int) (σ1 : ga_S) : Prop := ∃ τ0 n c2, RN0 σ σ N D M E K τ0 ∧ (muchF τ0 N D M E → Srch σ (RDN σ K).1 x L n 0 (fun _ => -1) 0 a c2) ∧ ((a = 0 ∧ exc (0 :: 60 :: 61 :: 62 :: SC) τ0 σ1 ∧ RNa σ σ N D M E K τ0 σ1 ∧ dlh (σ1.1 61) (σ1.1 60 0) (dfL (df3 τ0 N D M E) (clL σ (τ0.1 23) (τ0.1 36) (τ0.1 37) 60))) ∨ (a = 2 ∧ muchF τ0 N D M E ∧ exc SC τ0 σ1) ∨ (a = 1 ∧ muchF τ0 N D M E ∧ exc (0 :: 55 :: 56 :: 57 :: 58 :: 59 :: SC) τ0 σ1 ∧ RNa σ σ N D M E K τ0 σ1 ∧ σ1.1 55 0 = 1 ∧ CSr (ln σ) c2 (τ0.1 56) (σ1.1 56) L ∧ CSr c2 (ln σ) (τ0.1 57) (σ1.1 57) L ∧ (∀ i : Int, 0 ≤ i → i < 40 → σ1.1 58 i = gN σ c2 L 40 i) ∧ KN2 (gN σ c2 L 40) (σ1.1 59) 40 ∧ (∀ i : Int, 0 ≤ i → i < L → 0 ≤ c2 i ∧ c2 i < E ∧ bL σ (30 + c2 i)) ∧ (∀ i j : Int, 0 ≤ i → i < L → 0 ≤ j → j < L → c2 i = c2 j → i = j)))
theorem okR_ex {σ : ga_S} {N D M E K L : Nat} {x a : Int} {σ1 : ga_S} (h : okR σ N D M E K L x a σ1) : exc RUNL σ σ1 := by
  obtain ⟨τ0, n, c2, r0, _, w⟩ := h
  rcases w with ⟨_, e, _⟩ | ⟨_, _, e⟩ | ⟨_, _, e, _⟩
  · exact exc_tr r0.1 e (by decide) (by decide)
  · exact exc_tr r0.1 e (by decide) (by decide)
  · exact exc_tr r0.1 e (by decide) (by decide)
theorem okR_C {σ : ga_S} {N D M E K L : Nat} {x : Int} (h : Inv σ N D M E) (hx : 0 ≤ x ∧ x ≤ 2000) (hK : isK σ K) (hL : lnC σ 30 = L) : ga_Mt 6 0 0 mX10_run [Vr 0, Vl x] (HP σ) (okP (okR σ N D M E K L x)) ga_nox := by
  refine (T_X10_run x σ σ N D M E K L hx h.dsb h.prt hK h.2.1.2.1 h.fp h.2.2.1.2.2.2 hL (fun τ r hm => mc_nmd h.wf ((much_mc r.2.1 h.wf h.2.2.1.2.2.1).mp hm))).mono (fun v h2 w => ?_) (fun _ _ z => z)
  obtain ⟨τ0, r0, w⟩ := w
  rcases w with ⟨m, τ2, e, hv, hh, ra, dl⟩ | ⟨m, n, r, c2, hs, ⟨q, τ2, e, hv, hh, ra, dl⟩ | ⟨q, ⟨τ2, e, hv, hh, ra, k1, k2, k3, k4, k5⟩, c, i⟩ | ⟨q, τ2, e, hv, hh⟩⟩
  · exact ⟨0, τ2, ⟨τ0, 0, fun _ => 0, r0, fun z => absurd z m, Or.inl ⟨rfl, e, ra, dl⟩⟩, hv, hh⟩
  · subst q
    exact ⟨0, τ2, ⟨τ0, n, c2, r0, fun _ => hs, Or.inl ⟨rfl, e, ra, dl⟩⟩, hv, hh⟩
  · subst q
    exact ⟨1, τ2, ⟨τ0, n, c2, r0, fun _ => hs, Or.inr (Or.inr ⟨rfl, m, e, ra, k1, k2, k3, k4, k5, c, i⟩)⟩, hv, hh⟩
  · subst q
    exact ⟨2, τ2, ⟨τ0, n, c2, r0, fun _ => hs, Or.inr (Or.inl ⟨rfl, m, e⟩)⟩, hv, hh⟩
theorem run_ref {σ : ga_S} {N D M E K L : Nat} {x a : Int} {σ1 : ga_S} (h : Inv σ N D M E) (hx : 0 ≤ x ∧ x ≤ 2000) (hK : isK σ K) (hL : lnC σ 30 = L) (ho : okR σ N D M E K L x a σ1) : ga_Mt 7 0 0 mX11_run [Vr 63, Vl x] (HP (outS σ1 a)) (REND 0 (fun b => b = a)) ga_nox := by
  have e1 := okR_ex ho
  have eb : exc RUNL σ (outS σ1 a) := exc_st e1 (by decide)
  have hc : core (outS σ1 a) = core σ := core_exc eb (by decide)
  have hw := h.wf
  obtain ⟨_, hD, hD2, hNN, hN2, _, _⟩ := hw.1
  obtain ⟨_, hE, hE2, hM, hM2, _, _⟩ := hw.2.1
  obtain ⟨τ0, n, c2, r0, S, w⟩ := ho
  have mm := much_mc r0.2.1 hw h.2.2.1.2.2.1
  have sd2 := h.1.1.1.2.2.2.1
  have sd9 := h.1.2.1.2.2.2.1
  have hl := nmL_NmR (σ := σ) (N := N) (M := M) (p := σ.1 3) (q := σ.1 10) hNN hN2 hM hM2 sd2 sd9 80 (-1) (by decide) (sz_b (fun _ => tv_le)).2
  refine (T_X11_run (outS σ1 a) N D M E K n x a c2 (nmL (σ.1 3) (σ.1 10) N M 80 (-1)) hx (by rw [cg_wfR hc]; exact hw) (by rw [cg_fpB hc]; exact h.fp) (by rw [cg_prtB hc]; exact h.prt) ((cg_isK hc).mpr hK) (fun m => ?_) (fun q => ?_) (Nat.le_trans (nmL_len _ _ N M 80 (-1)) (Nat.le_of_ble_eq_true rfl)) ((cg_NmR hc).mpr hl)).mono (fun v h2 z => ?_) (fun _ _ z => z)
  · rw [cg_mcP hc] at m
    rw [cg_RDN hc, cg_lnC hc, hL]
    exact (cg_Srch hc).mpr (S (mm.mpr m))
  · rw [cg_lnC hc, hL]
    rcases w with ⟨q2, _⟩ | ⟨q2, _⟩ | ⟨_, _, _, _, _, _, _, _, _, _, q2⟩
    · omega
    · omega
    · exact q2
  obtain ⟨υ, x1, x2, x3, z⟩ := z
  have xu : exc RUNL σ υ := exc_tr eb x1 (fun _ z => z) (by decide)
  have cu : ∀ c, c ≠ 88 → c ∉ RRc → υ.1 c = σ1.1 c := fun c c1 c2 => (x1.1 c c2).trans (stI_ne _ _ c1)
  have x88 : υ.1 88 0 = a := by rw [x1.1 88 (by decide)]; rfl
  have ex0 := r0.1
  have r55 : τ0.1 55 0 = 0 := r0.2.2.2.2.2.2.1
  have r60 : τ0.1 60 0 = 0 := r0.2.2.2.2.2.2.2.1
  have r56 := r0.2.2.2.2.2.2.2.2.1
  have r58 := r0.2.2.2.2.2.2.2.2.2
  obtain ⟨P, hP⟩ := r0.2.2.1
  obtain ⟨o1, h36⟩ := r0.2.2.2.2.1
  obtain ⟨o2, h37⟩ := r0.2.2.2.2.2.1
  have htr := tried_is r0.2.1 hw hP h36
  have fin : (∃ b, b = a ∧ v = some (Vi b)) → dfB υ → kpB υ N D M E → REND 0 (fun b => b = a) v h2 := fun ⟨b, hb, hv⟩ hd hk => ⟨b, υ, hb, hv, x2, x3, fun _ => x88.trans hb.symm, ⟨N, D, M, E, Inv_run h xu.1 xu.2 hd hk⟩⟩
  rcases z with ⟨zm, zv, zr⟩ | ⟨zm, za, zv, zr⟩ | ⟨zm, za, zv, zr⟩
  · rw [cg_mcP hc] at zm
    rcases w with ⟨wa, we, wr, wd⟩ | ⟨wa, wm, _⟩ | ⟨wa, wm, _⟩
    · obtain ⟨z14, z15, z18, z17⟩ := zr
      rw [cg_anP hc, cg_RDN hc] at z15
      rw [cg_ofk hc, cg_usC hc, cg_RDN hc, cg_clP hc] at z17
      rw [df3_is r0.2.1 hw, clL_P r0.2.1 hw hP h36 h37 60 (Nat.le_refl _), ex0.1 3 (by decide), ex0.1 10 (by decide)] at wd
      have len := dfL_len σ N D M E (RDN σ K).1 (σ.1 3) (σ.1 10) (usC σ 0 N = usC σ 1 M) (2, 0, usC σ 0 N, usC σ 1 M)
      have dq := dlh_eq wd z17
      have k17 := z17.1
      refine fin ⟨0, wa.symm, zv⟩ ⟨?_, ?_, ?_, ?_, ?_⟩ ⟨?_, ?_, ?_⟩
      · rw [cu 0 (by decide) (by decide), wr.1, wr.2, z14, z15, htr]
        exact ⟨rfl, rfl⟩
      · rw [cu 60 (by decide) (by decide)]; exact dq.1
      · omega
      · omega
      · rw [cu 61 (by decide) (by decide)]; exact dq.2
      · rw [cu 55 (by decide) (by decide), we.1 55 (by decide), r55, z18]
      · intro _
        rw [cu 56 (by decide) (by decide), cu 57 (by decide) (by decide), cu 58 (by decide) (by decide), cu 59 (by decide) (by decide), we.1 56 (by decide), we.1 57 (by decide), we.1 58 (by decide), we.1 59 (by decide)]
        exact ⟨r56, r58⟩
      · intro q
        exact absurd z18 q
    · have := zm (mm.mp wm); omega
    · have := zm (mm.mp wm); omega
  · rcases w with ⟨wa, _⟩ | ⟨wa, wm, we⟩ | ⟨wa, _⟩
    · omega
    · obtain ⟨z14, z15, z18, z17⟩ := zr
      have b63 : (outS σ1 a).1 63 = σ.1 63 := (stI_ne _ _ (by decide)).trans ((we.1 63 (by decide)).trans (ex0.1 63 (by decide)))
      have b0 : υ.1 0 = σ.1 0 := by rw [cu 0 (by decide) (by decide), we.1 0 (by decide), ex0.1 0 (by decide)]
      rw [b63] at z14 z15
      refine fin ⟨2, wa.symm, zv⟩ ⟨?_, ?_, ?_, ?_, ?_⟩ ⟨?_, ?_, ?_⟩
      · rw [b0, z14, z15]
        exact h.2.2.2.1.1
      · rw [cu 60 (by decide) (by decide), we.1 60 (by decide), r60, z17]
      · omega
      · omega
      · intro j j1 j2; omega
      · rw [cu 55 (by decide) (by decide), we.1 55 (by decide), r55, z18]
      · intro _
        rw [cu 56 (by decide) (by decide), cu 57 (by decide) (by decide), cu 58 (by decide) (by decide), cu 59 (by decide) (by decide), we.1 56 (by decide), we.1 57 (by decide), we.1 58 (by decide), we.1 59 (by decide)]
        exact ⟨r56, r58⟩
      · intro q
        exact absurd z18 q
    · omega
  · rcases w with ⟨wa, _⟩ | ⟨wa, _⟩ | ⟨wa, wm, we, wr, w55, w56, w57, w58, w59, wc, wi⟩
    · omega
    · omega
    · obtain ⟨z14, z15, z18, z17, zd, zn⟩ := zr
      rw [cg_anP hc, cg_RDN hc] at z15
      rw [cg_ln hc, cg_lnC hc] at zd
      rw [cg_lnC hc] at zn
      simp only [cg_gN hc] at zn
      subst wa
      refine fin ⟨1, rfl, zv⟩ ⟨?_, ?_, ?_, ?_, ?_⟩ ⟨?_, ?_, fun _ => ⟨?_, ?_, ?_⟩⟩
      · rw [cu 0 (by decide) (by decide), wr.1, wr.2, z14, z15, htr]
        exact ⟨rfl, rfl⟩
      · rw [cu 60 (by decide) (by decide), we.1 60 (by decide), r60, z17]
      · omega
      · omega
      · intro j j1 j2; omega
      · rw [cu 55 (by decide) (by decide), w55, z18]
      · intro q; omega
      · intro d d1 d2
        rw [cu 56 (by decide) (by decide), cu 57 (by decide) (by decide)]
        rw [hL] at zd
        obtain ⟨p1, p2, p3, p4⟩ := zd
        constructor
        · by_cases q : ∀ i : Int, 0 ≤ i → i < L → ln σ i ≠ d
          · rw [w56.1 d q, p1 d d1 d2 q]
            exact (r56 d d1 d2).1
          · simp only [Classical.not_forall, Classical.not_not] at q
            obtain ⟨i, i1, i2, i3⟩ := q
            subst i3
            rw [w56.2 i i1 i2, p2 i i1 i2]
        · by_cases q : ∀ i : Int, 0 ≤ i → i < L → c2 i ≠ d
          · rw [w57.1 d q, p3 d d1 d2 q]
            exact (r56 d d1 d2).2
          · simp only [Classical.not_forall, Classical.not_not] at q
            obtain ⟨i, i1, i2, i3⟩ := q
            subst i3
            rw [w57.2 i i1 i2, p4 i i1 i2]
      · intro n n1 n2
        rw [cu 58 (by decide) (by decide), w58 n n1 n2, zn n n1 n2, hL]
      · rw [cu 59 (by decide) (by decide)]
        have S1 := S wm
        rw [← hL] at S1 wc w59
        exact prs_run (K := K) hw S1 wc (by rw [xu.1 66 (by decide)]) zd zn w59
theorem ST_run (x : Int) {σ : ga_S} (hI : IvO σ) : STEP (fun _ => True) mX10_run mX11_run (x1A σ) [Vl x] σ := by
  obtain ⟨N, D, M, E, h⟩ := id hI
  by_cases hx : x < 0 ∨ 2000 < x
  · exact STEP_of (fun _ _ => False) (fun c => c = 1) (by decide) (by decide) (by decide) (T_X10_run_X x σ hx) (fun _ _ z => z.elim) (fun E h z => ⟨⟨z.1, rfl⟩, z.2⟩) (fun _ _ z => z.elim) (fun c hc => ⟨7, by decide, (T_X11_run_X x σ hx).mono (fun v h2 w => by
      subst hc
      exact REND_bad (by decide) hI w.1 w.2) (fun _ _ z => z)⟩)
  · obtain ⟨K, hK⟩ := isK_ex σ
    obtain ⟨L, hL⟩ : ∃ L : Nat, lnC σ 30 = L := ⟨(lnC σ 30).toNat, by have := (lnC_b σ 30).1; omega⟩
    exact STEP_of (okR σ N D M E K L x) (fun _ => False) (by decide) (by decide) (by decide) (okR_C h (by omega) hK hL) (fun _ _ z => z) (fun _ _ z => z.elim) (fun a σ1 w => ⟨trivial, 7, by decide, run_ref h (by omega) hK hL w⟩) (fun _ z => z.elim)
