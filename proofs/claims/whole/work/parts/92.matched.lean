-- the reference: isMatched
theorem ga_W_mono {t mc ms kc ks : Nat} {M : ga_M0} {P P2 : ga_Po} {X X2 : ga_Px} {pc : Nat} {lv : List (Option ga_V)} {st : List ga_V} {h : ga_H} (k : ga_W t mc ms kc ks M P X pc lv st h) (hp : ∀ v h, P v h → P2 v h) (hx : ∀ E h, X E h → X2 E h) : ga_W t mc ms kc ks M P2 X2 pc lv st h := by
  intro p l e R s m args below meth c G tc A ad0 ad n0 H locs ls Q hC hP hl hol hos
  obtain ⟨c1, c2, c3, c4, c5, c6, c7, c8, c9, c10, c11, c12, c13, c14, c15, c16, g1, g2⟩ := hC
  refine k p l e R s m args below meth c G tc A ad0 ad n0 H locs ls Q ⟨c1, c2, c3, c4, c5, c6, c7, c8, c9, c10, c11, c12, c13, c14, c15, c16, fun v h ad H locs k n pc ls q => g1 v h ad H locs k n pc ls (hp v h q), ?_⟩ hP hl hol hos
  rcases g2 with z | ⟨Qc, XC, e, z⟩
  · exact Or.inl (fun E h q => z E h (hx E h q))
  · exact Or.inr ⟨Qc, XC, e, fun E h ad H locs t q => z E h ad H locs t (hx E h q)⟩
noncomputable def liC (σ : ga_S) (s : Int) (D : Nat) : Int := sz (fun d => tv (σ.1 68 (30 * s + d) = 0)) D
noncomputable def usC (σ : ga_S) (s : Int) (N : Nat) : Int := sz (fun n => tv (σ.1 64 (40 * s + n) ≠ -1 ∨ 0 < allB σ s n)) N
/-- the sides have as much, as the reference asks it -/
def mcP (σ : ga_S) (N M E : Nat) : Prop := lnC σ 30 = liC σ 1 E ∧ usC σ 0 N = usC σ 1 M ∧ ∀ k : Nat, k < 80 → nmP σ k
theorem cg_liC {σ τ : ga_S} (h : core τ = core σ) : liC τ = liC σ := cg liC (fun _ => rfl) h
theorem cg_usC {σ τ : ga_S} (h : core τ = core σ) : usC τ = usC σ := cg usC (fun _ => rfl) h
theorem cg_nmP {σ τ : ga_S} (h : core τ = core σ) : nmP τ = nmP σ := cg nmP (fun _ => rfl) h
theorem cg_lnC {σ τ : ga_S} (h : core τ = core σ) : lnC τ = lnC σ := cg lnC (fun _ => rfl) h
theorem cg_ln {σ τ : ga_S} (h : core τ = core σ) : ln τ = ln σ := cg ln (fun _ => rfl) h
theorem bL_0 {σ : ga_S} {D : Nat} (hD : σ.1 70 0 = D) {i : Int} (i1 : 0 ≤ i) (i2 : i < 30) : bL σ i ↔ i < D ∧ σ.1 68 i = 0 := by
  unfold bL
  rw [show i / 30 = 0 by omega, show i % 30 = i by omega, hD]
theorem bL_1 {σ : ga_S} {E : Nat} (hE : σ.1 70 1 = E) {i : Int} (i1 : 0 ≤ i) (i2 : i < 30) : bL σ (30 + i) ↔ i < E ∧ σ.1 68 (30 + i) = 0 := by
  unfold bL
  rw [show (30 + i) / 30 = 1 by omega, show (30 + i) % 30 = i by omega, hE]
theorem lnC_D {σ : ga_S} {D : Nat} (hD : σ.1 70 0 = D) (hD2 : D ≤ 30) : lnC σ 30 = lnC σ D := by
  unfold lnC
  have e : (30 : Nat) = D + (30 - D) := by omega
  rw [e, sz_sh, sz_z (n := 30 - D) (fun i hi => tvz (fun w => by have := ((bL_0 hD (by omega) (by omega)).mp w).1; omega)), Int.add_zero]
def MPo (σ : ga_S) (N M E : Nat) (lim r : Int) (c2 : Int → Int) : ga_Po := fun v h => (¬ mcP σ N M E ∧ ∃ τ, exc [63, 80] σ τ ∧ v = some (Vi 0) ∧ h = HP τ ∧ τ.1 63 = ga_up (σ.1 63) 22 (lnC σ 30)) ∨ (mcP σ N M E ∧ ∃ τ, exc (80 :: 86 :: RS2) σ τ ∧ h = HP τ ∧ (∀ i : Int, 0 ≤ i → i < lnC σ 30 → τ.1 80 i = ln σ i) ∧ ∃ t, τ.1 63 = ga_up (ga_up (σ.1 63) 22 (lnC σ 30)) 31 t ∧ ((r = 2 ∧ v = some (Vi 0) ∧ lim < t) ∨ (r = 0 ∧ v = some (Vi 0) ∧ t ≤ lim) ∨ (r = 1 ∧ v = some (Vi 1) ∧ t ≤ lim ∧ (∀ i : Int, 0 ≤ i → i < lnC σ 30 → τ.1 81 i = c2 i ∧ 0 ≤ c2 i ∧ c2 i < E) ∧ ∀ n : Int, 0 ≤ n → n < 40 → τ.1 83 n = gN σ c2 (lnC σ 30) 40 n)))
theorem W_matched (σ τ : ga_S) (N D M E n : Nat) (R : Int → Int) (lim r : Int) (c2 : Int → Int) (hw : wfR σ N D M E) (hf : fpB σ) (h30 : σ.1 63 30 = lim) (h31 : σ.1 63 31 = 0) (hR : nEq 60 (bL σ) (σ.1 73) R) (l1 : 0 ≤ lim) (l2 : lim ≤ 2000) (hm : mcP σ N M E) (hs : Srch σ R lim (lnC σ 30) n 0 (fun _ => -1) 0 r c2)
    (hx : exc [63, 80] σ τ) (h63 : τ.1 63 = ga_up (σ.1 63) 22 (lnC σ 30)) (hl : ∀ i : Int, 0 ≤ i → i < lnC σ 30 → τ.1 80 i = ln σ i) (z : Option ga_V) : ga_W 5 0 0 0 0 mX11_isMatched (MPo σ N M E lim r c2) ga_nox 86 [some (Vr 63), z] [] (HP τ) := by
  have hE3 := hw.2.1.2.1
  have hc : core τ = core σ := core_exc hx (by decide)
  have hL := lnC_b σ 30
  refine ga_aload_n dX11_isMatched_86 rfl ?_
  refine hc_VP (T_X11_sortFirst τ N D M E (by rw [cg_wfR hc]; exact hw)) fX11_sortFirst rfl kX11_sortFirst lkX11_204 dX11_isMatched_87 rfl rfl rfl rfl rfl rfl rfl rfl ?_
  rintro v h2 ⟨υ, w1, w2, w3, w4, w5⟩
  rw [w4, w5]
  have hc2 : core υ = core τ := core_exc w1 (by decide)
  have hc3 : core υ = core σ := hc2.trans hc
  have x3 : exc [63, 80, 84, 86] σ υ := exc_tr hx w1 (by decide) (by decide)
  rw [cg_bU hc] at w2
  rw [cg_bU hc, show ptE τ = ptE σ from cg ptE (fun _ => rfl) hc] at w3
  have e63 : υ.1 63 = ga_up (σ.1 63) 22 (lnC σ 30) := by rw [w1.1 63 (by decide)]; exact h63
  have e80 : υ.1 80 = τ.1 80 := w1.1 80 (by decide)
  have BS : bsP υ N D M E R lim (lnC σ 30) := by
    refine ⟨by rw [cg_wfR hc3]; exact hw, by rw [cg_fpB hc3]; exact hf, by rw [cg_lnC hc3], fun i i1 i2 => by rw [e80, cg_ln hc3]; exact hl i i1 i2, by rw [e63, ga_up_at], by rw [e63, ga_up_ne _ _ (by decide)]; exact h30, by rw [cg_bL hc3, x3.1 73 (by decide)]; exact hR, by rw [cg_bU hc3]; exact w2, l1, l2⟩
  have HD := (srch_all (r := r) (c2 := c2) BS n).1
  refine ga_iconst dX11_isMatched_90 ⟨by decide, by decide⟩ ?_
  refine ga_istore_n (lv2 := [_, _]) dX11_isMatched_91 (by decide) rfl rfl ?_
  refine ga_aload_n dX11_isMatched_92 rfl ?_
  refine hg_getR grX11_63 dX11_isMatched_93 rfl rfl ?_
  refine ga_iconst dX11_isMatched_96 ⟨by decide, by decide⟩ ?_
  refine ga_iconst dX11_isMatched_97 ⟨by decide, by decide⟩ ?_
  refine hg_iast dX11_isMatched_98 rfl (by omega) (by omega) ?_
  have eP : ptE σ = SE σ (fun _ => -1) 0 := by
    funext x y
    exact propext ⟨fun w => ⟨w, fun i a b => by omega⟩, fun w => w.1⟩
  have x4 : exc RS1 υ (stI υ 81 (ga_up (υ.1 81) 0 (-1))) := exc_st exc_r (by decide)
  refine ga_W_mono (HD 0 (fun _ => -1) 0 _ ((cg_Srch hc3).mpr hs) ⟨x4, ?_, fun i a b => ?_, fun q hq a a1 a2 ua => ?_, fun _ _ _ => rfl, fun i a b => by omega, fun _ => ⟨Int.le_refl _, by show (-1 : Int) < E; omega⟩⟩ (by omega) (by omega) (Int.le_refl _) l1) (fun v h hp => ?_) (fun _ _ z => z.elim)
  · show υ.1 63 = _
    rw [ga_up_self]
    rw [e63, ga_up_ne _ _ (by decide)]
    exact h31
  · rw [show i = 0 by omega, stI_at, ga_up_at]
  · have q0 : q = 0 := by omega
    subst q0
    show υ.1 84 _ = _
    rw [cg_bU hc3] at ua ⊢
    rw [cg_SE hc3, show ((0 : Nat) : Int) = 0 from rfl, ← eP, show 80 * (0 : Int) + a = a by omega]
    exact w3 a a1 a2 ua
  · obtain ⟨ω, y1, y2, t, y3, y4⟩ := hp
    refine Or.inr ⟨hm, ω, exc_tr x3 y1 (by decide) (by decide), y2, fun i a b => ?_, t, by rw [y3, e63], ?_⟩
    · rw [y1.1 80 (by decide), e80]
      exact hl i a b
    · rw [cg_gN hc3] at y4
      exact y4
theorem T_X11_isMatched (σ : ga_S) (N D M E n : Nat) (R : Int → Int) (lim r : Int) (c2 : Int → Int) (hw : wfR σ N D M E) (hf : fpB σ) (h30 : σ.1 63 30 = lim) (h31 : σ.1 63 31 = 0) (hR : nEq 60 (bL σ) (σ.1 73) R) (l1 : 0 ≤ lim) (l2 : lim ≤ 2000) (hs : mcP σ N M E → Srch σ R lim (lnC σ 30) n 0 (fun _ => -1) 0 r c2) : ga_Mt 5 0 0 mX11_isMatched [Vr 63] (HP σ) (MPo σ N M E lim r c2) ga_nox := by
  obtain ⟨s1, hD, hD2, hNN, hN2, hk, hz⟩ := hw.1
  obtain ⟨s2, hE, hE2, hM, hM2, _, _⟩ := hw.2.1
  have hLD := lnC_D hD hD2
  refine ga_meth [some (Vr 63), none] rfl rfl (by decide +kernel) (Nat.le_of_ble_eq_true rfl) rfl ?_
  refine ga_aload_n dX11_isMatched_0 rfl ?_
  refine ga_iconst dX11_isMatched_1 ⟨by decide, by decide⟩ ?_
  refine hg_putI 22 gfX11_194 dX11_isMatched_2 rfl rfl rfl ?_
  refine ga_iconst dX11_isMatched_5 ⟨by decide, by decide⟩ ?_
  refine ga_istore_n (lv2 := [_, _]) dX11_isMatched_6 (by decide) rfl rfl ?_
  refine (ga_loop D (fun i => ∀ τ, exc [63, 80] σ τ → τ.1 63 = ga_up (σ.1 63) 22 (lnC σ i) → (∀ k : Int, 0 ≤ k → k < lnC σ i → τ.1 80 k = ln σ k) → ga_W 5 0 0 0 0 mX11_isMatched (MPo σ N M E lim r c2) ga_nox 7 [some (Vr 63), some (Vi (i : Int))] [] (HP τ)) ?_ ?_ 0 (Nat.zero_le _) (stI σ 63 (ga_up (σ.1 63) 22 0)) (exc_st exc_r (by decide)) (by rw [stI_at]; rfl) (fun k k1 k2 => by have : lnC σ 0 = 0 := rfl; omega) : _)
  · intro τ hx h63 hl
    rw [← hLD] at h63 hl
    have hc : core τ = core σ := core_exc hx (by decide)
    have e70 : τ.1 70 = σ.1 70 := hx.1 70 (by decide)
    have e65 : τ.1 65 = σ.1 65 := hx.1 65 (by decide)
    have i22 : τ.1 63 22 = lnC σ 30 := by rw [h63, ga_up_at]
    have NO : ¬ mcP σ N M E → ∀ z, ga_W 5 0 0 0 0 mX11_isMatched (MPo σ N M E lim r c2) ga_nox 84 [some (Vr 63), z] [] (HP τ) := by
      intro hn z
      refine ga_iconst dX11_isMatched_84 ⟨by decide, by decide⟩ ?_
      refine ga_ret (v := some _) ?_ rfl (by decide) (by decide) ⟨dX11_isMatched_85, _, rfl, rfl⟩
      exact Or.inl ⟨hn, τ, hx, rfl, rfl, h63⟩
    refine ga_iload_n dX11_isMatched_7 rfl ?_
    refine ga_aload_n dX11_isMatched_8 rfl ?_
    refine hg_getR grX11_30 dX11_isMatched_9 rfl rfl ?_
    refine ga_iconst dX11_isMatched_12 ⟨by decide, by decide⟩ ?_
    refine hg_iald dX11_isMatched_13 rfl (by omega) (by omega) ?_
    refine ga_icmp_ge (tgt := 52) dX11_isMatched_14 rfl (fun c_14 => ?_) (fun c_14 => ?_)
    rotate_left
    · have c9 : (D : Int) < τ.1 70 0 := c_14
      rw [e70, hD] at c9
      omega
    · refine ga_aload_n dX11_isMatched_52 rfl ?_
      refine hg_getI 22 grX11_194 dX11_isMatched_53 rfl rfl rfl ?_
      refine ga_aload_n dX11_isMatched_56 rfl ?_
      refine ga_iconst dX11_isMatched_57 ⟨by decide, by decide⟩ ?_
      rw [i22]
      refine hc_V (T_X11_live 1 τ E (Or.inr rfl) (by rw [e70]; exact hE) hE2) fX11_live rfl kX11_live lkX11_130 dX11_isMatched_58 rfl rfl rfl rfl rfl rfl rfl rfl ?_
      refine ga_icmp_ne (tgt := 84) dX11_isMatched_61 rfl (fun c_61 => ?_) (fun c_61 => ?_)
      · have c9 : ¬ lnC σ 30 = liC τ 1 E := c_61
        rw [cg_liC hc] at c9
        exact NO (fun w => c9 w.1) _
      · have c9 : lnC σ 30 = liC τ 1 E := c_61
        rw [cg_liC hc] at c9
        refine ga_aload_n dX11_isMatched_64 rfl ?_
        refine ga_iconst dX11_isMatched_65 ⟨by decide, by decide⟩ ?_
        refine hc_V (T_X11_used 0 τ D N (Or.inl rfl) (by rw [e70]; exact hD) hD2 (by rw [e65]; exact hNN) hN2) fX11_used rfl kX11_used lkX11_197 dX11_isMatched_66 rfl rfl rfl rfl rfl rfl rfl rfl ?_
        refine ga_aload_n dX11_isMatched_69 rfl ?_
        refine ga_iconst dX11_isMatched_70 ⟨by decide, by decide⟩ ?_
        refine hc_V (T_X11_used 1 τ E M (Or.inr rfl) (by rw [e70]; exact hE) hE2 (by rw [e65]; exact hM) hM2) fX11_used rfl kX11_used lkX11_197 dX11_isMatched_71 rfl rfl rfl rfl rfl rfl rfl rfl ?_
        refine ga_icmp_ne (tgt := 84) dX11_isMatched_74 rfl (fun c_74 => ?_) (fun c_74 => ?_)
        · have c8 : ¬ usC τ 0 N = usC τ 1 M := c_74
          rw [cg_usC hc] at c8
          exact NO (fun w => c8 w.2.1) _
        · have c8 : usC τ 0 N = usC τ 1 M := c_74
          rw [cg_usC hc] at c8
          refine ga_aload_n dX11_isMatched_77 rfl ?_
          refine hc_V (T_X11_isNamed τ N M (by rw [e65]; exact hNN) hN2 (by rw [e65]; exact hM) hM2) fX11_isNamed rfl kX11_isNamed lkX11_200 dX11_isMatched_78 rfl rfl rfl rfl rfl rfl rfl rfl ?_
          refine ga_if_ne (tgt := 86) dX11_isMatched_81 rfl (fun c_81 => ?_) (fun c_81 => ?_)
          · rw [tv_ne0, cg_nmP hc] at c_81
            have hm : mcP σ N M E := ⟨c9, c8, c_81⟩
            exact W_matched σ τ N D M E n R lim r c2 hw hf h30 h31 hR l1 l2 hm (hs hm) hx h63 hl _
          · rw [tv_eq0, cg_nmP hc] at c_81
            exact NO (fun w => c_81 w.2.2) _
  · intro i hi k τ hx h63 hl
    have e70 : τ.1 70 = σ.1 70 := hx.1 70 (by decide)
    have e68 : τ.1 68 = σ.1 68 := hx.1 68 (by decide)
    have lb := lnC_b σ i
    have i22 : τ.1 63 22 = lnC σ i := by rw [h63, ga_up_at]
    have bl := bL_0 (σ := σ) hD (i := i) (by omega) (by omega)
    rw [lnC_s] at k
    refine ga_iload_n dX11_isMatched_7 rfl ?_
    refine ga_aload_n dX11_isMatched_8 rfl ?_
    refine hg_getR grX11_30 dX11_isMatched_9 rfl rfl ?_
    refine ga_iconst dX11_isMatched_12 ⟨by decide, by decide⟩ ?_
    refine hg_iald dX11_isMatched_13 rfl (by omega) (by omega) ?_
    refine ga_icmp_ge (tgt := 52) dX11_isMatched_14 rfl (fun c_14 => ?_) (fun c_14 => ?_)
    · have c9 : τ.1 70 0 ≤ (i : Int) := Int.not_lt.mp c_14
      rw [e70, hD] at c9
      omega
    · refine ga_aload_n dX11_isMatched_17 rfl ?_
      refine hg_getR grX11_23 dX11_isMatched_18 rfl rfl ?_
      refine ga_iload_n dX11_isMatched_21 rfl ?_
      refine hg_zald dX11_isMatched_22 rfl (by omega) (by omega) ?_
      refine ga_if_ne (tgt := 46) dX11_isMatched_23 rfl (fun c_23 => ?_) (fun c_23 => ?_)
      · have nl : ¬ bL σ i := fun w => c_23 (by rw [e68]; exact (bl.mp w).2)
        rw [tvz nl, Int.add_zero] at k
        refine ga_iinc (z := ((i + 1 : Nat) : Int)) (lv2 := [_, _]) dX11_isMatched_46 (by decide) rfl rfl (by omega) (⟨by omega, by omega⟩) rfl ?_
        refine ga_goto (tgt := 7) dX11_isMatched_49 rfl ?_
        exact k τ hx h63 hl
      · have l : bL σ i := bl.mpr ⟨by omega, by rw [← e68]; exact c_23⟩
        rw [tv1 l] at k
        have la := ln_at (β := σ) (e := i) (by omega) l
        refine ga_aload_n dX11_isMatched_26 rfl ?_
        refine hg_getR grX11_60 dX11_isMatched_27 rfl rfl ?_
        refine ga_aload_n dX11_isMatched_30 rfl ?_
        refine hg_getI 22 grX11_194 dX11_isMatched_31 rfl rfl rfl ?_
        rw [i22]
        have j22 : (stI τ 80 (ga_up (τ.1 80) (lnC σ i) (i : Int))).1 63 22 = lnC σ i := i22
        refine ga_iload_n dX11_isMatched_34 rfl ?_
        refine hg_iast dX11_isMatched_35 rfl (by omega) (by omega) ?_
        refine ga_aload_n dX11_isMatched_36 rfl ?_
        refine ga_dup dX11_isMatched_37 rfl ?_
        refine hg_getI 22 grX11_194 dX11_isMatched_38 rfl rfl rfl ?_
        rw [j22]
        refine ga_iconst dX11_isMatched_41 ⟨by decide, by decide⟩ ?_
        refine ga_iadd dX11_isMatched_42 rfl (⟨by omega, by omega⟩) ?_
        refine hg_putI 22 gfX11_194 dX11_isMatched_43 rfl rfl rfl ?_
        refine ga_iinc (z := ((i + 1 : Nat) : Int)) (lv2 := [_, _]) dX11_isMatched_46 (by decide) rfl rfl (by omega) (⟨by omega, by omega⟩) rfl ?_
        refine ga_goto (tgt := 7) dX11_isMatched_49 rfl ?_
        refine k _ (exc_st (exc_st hx (by decide)) (by decide)) ?_ (fun q q1 q2 => ?_)
        · show ga_up (τ.1 63) 22 _ = _
          rw [h63, ga_up_up]
        · show ga_up (τ.1 80) (lnC σ i) i q = _
          by_cases w : q = lnC σ i
          · rw [w, ga_up_at, la]
          · rw [ga_up_ne _ _ w]; exact hl q q1 (by omega)
