-- the face: run, with a match
theorem W_run_keep {P9 : ga_Po} {X : ga_Px} (x : Int) (σ β : ga_S) (N D M E K L : Nat) (c2 : Int → Int) (τ0 τ : ga_S) (h0 : RN0 σ β N D M E K τ0) (hL : lnC β 30 = L) (hF : FI β E L L c2 τ0 τ) (kk : ∀ v h, (fun v h => ∃ τ2, exc (0 :: 55 :: 56 :: 57 :: 58 :: 59 :: SC) τ0 τ2 ∧ v = some (Vi 1) ∧ h = HP τ2 ∧ RNa σ β N D M E K τ0 τ2 ∧ τ2.1 55 0 = 1 ∧ CSr (ln β) c2 (τ0.1 56) (τ2.1 56) L ∧ CSr c2 (ln β) (τ0.1 57) (τ2.1 57) L ∧ (∀ i : Int, 0 ≤ i → i < 40 → τ2.1 58 i = gN β c2 L 40 i) ∧ KN2 (gN β c2 L 40) (τ2.1 59) 40) v h → P9 v h) : ga_W 6 0 0 0 0 mX10_run P9 X 86 [some (Vr 0), some (Vl x), none, some (Vi 1)] [] (HP τ) := by
  obtain ⟨a1, a2, ⟨P, a3⟩, a4, a5, a6, a7, a8, a9, a10⟩ := h0
  obtain ⟨hx, f2, f3, f4, f5, f6, f7, f8, f9, f10⟩ := hF
  have hC : ∀ u : Int, 0 ≤ u → u < 60 → bL β u → 0 ≤ τ0.1 23 u ∧ τ0.1 23 u < 60 := fun u b c d => by
    have := a3.2.1 u b c d
    have := a3.2.2.2.2
    omega
  have hd := dsg_exc hx (by decide) a2
  have D3 := hd.1.1.2.2.1
  have D4 := hd.1.1.2.2.2.1
  have E4 := hd.2.1.1.2.2.2.1
  have k21 : τ.1 21 2 = K := by rw [hx.1 21 (by decide)]; exact a4
  have tp := hst_top (f10 (by omega))
  rw [Int.toNat_of_nonneg (by omega)] at tp
  have lb := lnC_b β 30
  refine ga_iload_n dX10_run_86 rfl ?_
  refine ga_iconst dX10_run_87 ⟨by decide, by decide⟩ ?_
  refine ga_icmp_ne (tgt := 93) dX10_run_88 rfl (fun c_88 => ?_) (fun c_88 => ?_)
  · refine ga_aload_n dX10_run_93 rfl ?_
    refine ga_aload_n dX10_run_94 rfl ?_
    refine hg_getR grX10_26 dX10_run_95 rfl rfl ?_
    refine hg_getI 2 grX10_185 dX10_run_98 rfl rfl rfl ?_
    rw [k21]
    refine hg_putI 6 gfX10_51 dX10_run_101 rfl rfl rfl ?_
    refine ga_aload_n dX10_run_104 rfl ?_
    refine ga_aload_n dX10_run_105 rfl ?_
    refine hg_getR grX10_26 dX10_run_106 rfl rfl ?_
    refine ga_aload_n dX10_run_109 rfl ?_
    refine hg_getR grX10_10 dX10_run_110 rfl rfl ?_
    refine hg_getR grX10_188 dX10_run_113 rfl rfl ?_
    have hA : ∀ d : Int, 0 ≤ d → d < D → (stI τ 0 (ga_up (τ.1 0) 6 K)).1 7 d = 0 → 0 ≤ (stI τ 0 (ga_up (τ.1 0) 6 K)).1 23 (0 * 30 + d) ∧ (stI τ 0 (ga_up (τ.1 0) 6 K)).1 23 (0 * 30 + d) < 60 := by
      intro d d1 d2 d3
      show 0 ≤ τ.1 23 (0 * 30 + d) ∧ τ.1 23 (0 * 30 + d) < 60
      rw [hx.1 23 (by decide)]
      refine hC _ (by omega) (by omega) ?_
      rw [show 0 * 30 + d = 30 * 0 + d by omega]
      exact (agF_live hd.1 d1 d2).mpr d3
    refine hc_V (T_X0_alikeOnFirstSide _ D D3 D4 hA) fX0_alikeOnFirstSide rfl kX0_alikeOnFirstSide lkX10_192 dX10_run_116 rfl rfl rfl rfl rfl rfl rfl rfl ?_
    refine hg_putI 7 gfX10_55 dX10_run_119 rfl rfl rfl ?_
    refine ga_iload_n dX10_run_122 rfl ?_
    refine ga_iconst dX10_run_123 ⟨by decide, by decide⟩ ?_
    refine ga_icmp_ne (tgt := 145) dX10_run_124 rfl (fun c_124 => ?_) (fun c_124 => ?_)
    · exact absurd rfl c_124
    · have K58 : ∀ i : Int, 0 ≤ i → i < 40 → τ.1 58 i = -1 := fun i a b => by rw [hx.1 58 (by decide)]; exact (a10 i a b).1
      have K59 : ∀ i : Int, 0 ≤ i → i < 40 → τ.1 59 i = -1 := fun i a b => by rw [hx.1 59 (by decide)]; exact (a10 i a b).2
      have K40 : ∀ i : Int, 0 ≤ i → i < L → τ.1 40 i = c2 i ∧ 0 ≤ c2 i ∧ c2 i < 30 := fun i a b => ⟨f4 i a (by omega), (f6 i a b).1, by have := (f6 i a b).2.1; omega⟩
      refine ga_aload_n dX10_run_127 rfl ?_
      refine hg_getR grX10_33 dX10_run_128 rfl rfl ?_
      refine ga_aload_n dX10_run_131 rfl ?_
      refine hg_getR grX10_10 dX10_run_132 rfl rfl ?_
      refine ga_aload_n dX10_run_135 rfl ?_
      refine hg_getR grX10_40 dX10_run_136 rfl rfl ?_
      refine hc_VP (T_X8_keep _ β N D M E L c2 (dsg_exc2 (exc_st (exc_st exc_r (by decide)) (by decide) : exc [0] τ _) (fun c _ hc => hc) hd) hL f2 f3 K40 f7 tp.1 K58 K59) fX8_keep rfl kX8_keep lkX10_196 dX10_run_139 rfl rfl rfl rfl rfl rfl rfl rfl ?_
      rintro v h ⟨τ3, x1, x2, x3, x4, x5, x6, x7, x8⟩
      rw [x7, x8]
      refine ga_goto (tgt := 160) dX10_run_142 rfl ?_
      refine ga_iload_n dX10_run_160 rfl ?_
      refine ga_ret (v := some _) ?_ rfl (by decide) (by decide) ⟨dX10_run_161, _, rfl, rfl⟩
      refine kk _ _ ⟨τ3, ?_, rfl, rfl, ⟨?_, ?_⟩, x2, ?_, ?_, x5, x6⟩
      · exact exc_tr (exc_st (exc_st (exc_m hx (L2 := 0 :: SC) (by decide)) (by decide)) (by decide)) x1 (by decide) (by decide)
      · rw [x1.1 0 (by decide)]
        rfl
      · rw [x1.1 0 (by decide)]
        show sz (fun d => tv (τ.1 7 d = 0 ∧ 1 < τ.1 36 (τ.1 23 (0 * 30 + d)))) D = _
        rw [hx.1 7 (by decide), hx.1 36 (by decide), hx.1 23 (by decide)]
      · rw [← hx.1 56 (by decide)]; exact x3
      · rw [← hx.1 57 (by decide)]; exact x4
  · exact absurd c_88 (by decide)
