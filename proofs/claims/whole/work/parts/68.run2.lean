-- the face: run, its ends
theorem dsg_exc2 {L : List Nat} {σ τ β : ga_S} {N D M E : Nat} (h : exc L σ τ) (hL : ∀ c, c ≤ 17 → c ∉ [0] → c ∉ L) (g : dsg σ β N D M E) : dsg τ β N D M E := by
  unfold dsg agS_2 agS_9 at g ⊢
  rw [h.1 2 (hL 2 (by decide) (by decide)), h.1 3 (hL 3 (by decide) (by decide)), h.1 4 (hL 4 (by decide) (by decide)), h.1 5 (hL 5 (by decide) (by decide)), h.1 7 (hL 7 (by decide) (by decide)), h.1 8 (hL 8 (by decide) (by decide)), h.1 9 (hL 9 (by decide) (by decide)), h.1 10 (hL 10 (by decide) (by decide)), h.1 11 (hL 11 (by decide) (by decide)), h.1 12 (hL 12 (by decide) (by decide)), h.1 14 (hL 14 (by decide) (by decide)), h.1 15 (hL 15 (by decide) (by decide)), h.1 17 (hL 17 (by decide) (by decide)), h.2]
  exact g
/-- rounds and like devices of the run are put down -/
def RNa (σ β : ga_S) (N D M E K : Nat) (τ τ2 : ga_S) : Prop := τ2.1 0 6 = K ∧ τ2.1 0 7 = sz (fun d => tv (τ.1 7 d = 0 ∧ 1 < τ.1 36 (τ.1 23 (0 * 30 + d)))) D
theorem W_run_list {P9 : ga_Po} {X : ga_Px} (x r : Int) (σ β : ga_S) (N D M E K : Nat) (τ0 τ : ga_S) (h0 : RN0 σ β N D M E K τ0) (hx : exc SC τ0 τ) (hr : r ≠ 1) (hr2 : r ≠ 2) (kk : ∀ v h, (fun v h => ∃ τ2, exc (0 :: 60 :: 61 :: 62 :: SC) τ0 τ2 ∧ v = some (Vi r) ∧ h = HP τ2 ∧ RNa σ β N D M E K τ0 τ2 ∧ dlh (τ2.1 61) (τ2.1 60 0) (dfL (df3 τ0 N D M E) (clL β (τ0.1 23) (τ0.1 36) (τ0.1 37) 60))) v h → P9 v h) : ga_W 6 0 0 0 0 mX10_run P9 X 86 [some (Vr 0), some (Vl x), none, some (Vi r)] [] (HP τ) := by
  obtain ⟨a1, a2, ⟨P, a3⟩, a4, a5, a6, a7, a8, a9, a10⟩ := h0
  have hC : ∀ u : Int, 0 ≤ u → u < 60 → bL β u → 0 ≤ τ0.1 23 u ∧ τ0.1 23 u < 60 := fun u b c d => by
    have := a3.2.1 u b c d
    have := a3.2.2.2.2
    omega
  have hd := dsg_exc hx (by decide) a2
  have D3 := hd.1.1.2.2.1
  have D4 := hd.1.1.2.2.2.1
  have k21 : τ.1 21 2 = K := by rw [hx.1 21 (by decide)]; exact a4
  refine ga_iload_n dX10_run_86 rfl ?_
  refine ga_iconst dX10_run_87 ⟨by decide, by decide⟩ ?_
  refine ga_icmp_ne (tgt := 93) dX10_run_88 rfl (fun c_88 => ?_) (fun c_88 => ?_)
  · refine ga_aload_n dX10_run_93 rfl ?_
    refine ga_aload_n dX10_run_94 rfl ?_
    refine hg_getR grX10_26 dX10_run_95 rfl rfl ?_
    refine hg_getI 2 grX10_185 dX10_run_98 rfl rfl rfl ?_
    rw [k21]
    refine hg_putI 6 gfX10_51 dX10_run_101 rfl rfl rfl ?_
    refine ga_aload_n dX10_run_104 rfl ?_
    refine ga_aload_n dX10_run_105 rfl ?_
    refine hg_getR grX10_26 dX10_run_106 rfl rfl ?_
    refine ga_aload_n dX10_run_109 rfl ?_
    refine hg_getR grX10_10 dX10_run_110 rfl rfl ?_
    refine hg_getR grX10_188 dX10_run_113 rfl rfl ?_
    have hA : ∀ d : Int, 0 ≤ d → d < D → (stI τ 0 (ga_up (τ.1 0) 6 K)).1 7 d = 0 → 0 ≤ (stI τ 0 (ga_up (τ.1 0) 6 K)).1 23 (0 * 30 + d) ∧ (stI τ 0 (ga_up (τ.1 0) 6 K)).1 23 (0 * 30 + d) < 60 := by
      intro d d1 d2 d3
      show 0 ≤ τ.1 23 (0 * 30 + d) ∧ τ.1 23 (0 * 30 + d) < 60
      rw [hx.1 23 (by decide)]
      refine hC _ (by omega) (by omega) ?_
      rw [show 0 * 30 + d = 30 * 0 + d by omega]
      exact (agF_live hd.1 d1 d2).mpr d3
    refine hc_V (T_X0_alikeOnFirstSide _ D D3 D4 hA) fX0_alikeOnFirstSide rfl kX0_alikeOnFirstSide lkX10_192 dX10_run_116 rfl rfl rfl rfl rfl rfl rfl rfl ?_
    refine hg_putI 7 gfX10_55 dX10_run_119 rfl rfl rfl ?_
    refine ga_iload_n dX10_run_122 rfl ?_
    refine ga_iconst dX10_run_123 ⟨by decide, by decide⟩ ?_
    refine ga_icmp_ne (tgt := 145) dX10_run_124 rfl (fun c_124 => ?_) (fun c_124 => ?_)
    · refine ga_aload_n dX10_run_145 rfl ?_
      refine hg_getR grX10_47 dX10_run_146 rfl rfl ?_
      refine ga_aload_n dX10_run_149 rfl ?_
      refine hg_getR grX10_10 dX10_run_150 rfl rfl ?_
      refine ga_aload_n dX10_run_153 rfl ?_
      refine hg_getR grX10_26 dX10_run_154 rfl rfl ?_
      refine hc_VP (T_X2_list _ β N D M E (dsg_exc2 (exc_st (exc_st exc_r (by decide)) (by decide) : exc [0] τ _) (fun c _ hc => hc) hd) (by show ∀ u : Int, 0 ≤ u → u < 60 → bL β u → 0 ≤ τ.1 23 u ∧ τ.1 23 u < 60; rw [hx.1 23 (by decide)]; exact hC) (by show τ.1 60 0 = 0; rw [hx.1 60 (by decide)]; exact a8)) fX2_list rfl kX2_list lkX10_200 dX10_run_157 rfl rfl rfl rfl rfl rfl rfl rfl ?_
      rintro v h ⟨τ3, x1, x2, x3, x4⟩
      rw [x3, x4]
      refine ga_iload_n dX10_run_160 rfl ?_
      refine ga_ret (v := some _) ?_ rfl (by decide) (by decide) ⟨dX10_run_161, _, rfl, rfl⟩
      refine kk _ _ ⟨τ3, ?_, rfl, rfl, ⟨?_, ?_⟩, ?_⟩
      · exact exc_tr (exc_st (exc_st (exc_m hx (L2 := 0 :: SC) (by decide)) (by decide)) (by decide)) x1 (by decide) (by decide)
      · rw [x1.1 0 (by decide)]
        rfl
      · rw [x1.1 0 (by decide)]
        show sz (fun d => tv (τ.1 7 d = 0 ∧ 1 < τ.1 36 (τ.1 23 (0 * 30 + d)))) D = _
        rw [hx.1 7 (by decide), hx.1 36 (by decide), hx.1 23 (by decide)]
      · have e : ∀ f g, df3 (stI (stI τ 0 f) 0 g) N D M E = df3 τ0 N D M E := by
          intro f g
          show df3 τ N D M E = _
          unfold df3
          rw [hx.1 7 (by decide), hx.1 5 (by decide), hx.1 14 (by decide), hx.1 12 (by decide), hx.1 4 (by decide), hx.1 11 (by decide), hx.1 3 (by decide), hx.1 10 (by decide)]
        have e2 : ∀ f g, clL β ((stI (stI τ 0 f) 0 g).1 23) ((stI (stI τ 0 f) 0 g).1 36) ((stI (stI τ 0 f) 0 g).1 37) 60 = clL β (τ0.1 23) (τ0.1 36) (τ0.1 37) 60 := by
          intro f g
          show clL β (τ.1 23) (τ.1 36) (τ.1 37) 60 = _
          rw [hx.1 23 (by decide), hx.1 36 (by decide), hx.1 37 (by decide)]
        rw [e, e2] at x2
        exact x2
    · exact absurd c_124 hr
  · exact absurd c_88 hr2
