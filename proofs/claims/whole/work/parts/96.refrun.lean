-- the reference: run
theorem cg_RDN {σ τ : ga_S} (h : core τ = core σ) : ∀ k : Nat, RDN τ k = RDN σ k
  | 0 => cg (fun β => RDN β 0) (fun _ => rfl) h
  | k + 1 => by
    apply Prod.ext
    · rw [RDN_s1, RDN_s1, cg_RDN h k, cg_bL h, cg_relD h]
    · rw [RDN_s2, RDN_s2, cg_RDN h k, cg_bU h, cg_relN h]
theorem cg_isK {σ τ : ga_S} (h : core τ = core σ) {K : Nat} : isK τ K ↔ isK σ K := by
  unfold isK cntB
  simp only [cg_RDN h, cg_bL h, cg_bU h]
theorem cg_clP {σ τ : ga_S} (h : core τ = core σ) (R : Int → Int) (D E : Nat) : ∀ e : Nat, clP τ R D E e = clP σ R D E e
  | 0 => rfl
  | e + 1 => by rw [clP_s, clP_s, cg_clP h R D E e, cg_bL h, show nsR τ = nsR σ from cg nsR (fun _ => rfl) h]
theorem cg_mcP {σ τ : ga_S} (h : core τ = core σ) : mcP τ = mcP σ := cg mcP (fun _ => rfl) h
theorem cg_prtB {σ τ : ga_S} (h : core τ = core σ) : prtB τ = prtB σ := cg prtB (fun _ => rfl) h
theorem cg_ofk {σ τ : ga_S} (h : core τ = core σ) : ofk τ = ofk σ := cg ofk (fun _ => rfl) h
theorem cg_anP {σ τ : ga_S} (h : core τ = core σ) : anP τ = anP σ := cg anP (fun _ => rfl) h
theorem cg_rfk {σ τ υ : ga_S} (h : core τ = core σ) {K : Nat} : rfk τ υ K ↔ rfk σ υ K := by
  unfold rfk
  rw [cg_bL h, cg_bU h, cg_RDN h, cg_okD h, cg_okN h]
theorem dpP_cg {l c l2 c2 f : Int → Int} {L : Int} (h : dpP l c f L) (e1 : ∀ i : Int, 0 ≤ i → i < L → l i = l2 i) (e2 : ∀ i : Int, 0 ≤ i → i < L → c i = c2 i) : dpP l2 c2 f L := by
  obtain ⟨a, b, d, e⟩ := h
  refine ⟨fun x x1 x2 x3 => a x x1 x2 (fun i i1 i2 => by rw [e1 i i1 i2]; exact x3 i i1 i2), fun i i1 i2 => ?_, fun x x1 x2 x3 => d x x1 x2 (fun i i1 i2 => by rw [e2 i i1 i2]; exact x3 i i1 i2), fun i i1 i2 => ?_⟩
  · rw [← e1 i i1 i2, ← e2 i i1 i2]; exact b i i1 i2
  · rw [← e1 i i1 i2, ← e2 i i1 i2]; exact e i i1 i2
theorem ln_inj {σ : ga_S} : ∀ i j : Int, 0 ≤ i → i < lnC σ 30 → 0 ≤ j → j < lnC σ 30 → ln σ i = ln σ j → i = j := by
  intro i j i1 i2 j1 j2 h
  have a := (ln_in (β := σ) (e := 30) (Nat.le_refl _) i i1 i2).2.2.2
  have b := (ln_in (β := σ) (e := 30) (Nat.le_refl _) j j1 j2).2.2.2
  rw [h] at a
  omega
theorem anP_cg {σ : ga_S} {C R : Int → Int} (hn : nEq 60 (bL σ) C R) : sz (fun a => tv (anP σ C a)) 30 = sz (fun a => tv (anP σ R a)) 30 := by
  apply sz_congr
  intro a ha
  apply tv_congr
  unfold anP
  refine and_congr_right (fun la => exists_congr (fun b => and_congr_right (fun b1 => and_congr_right (fun _ => and_congr_right (fun lb => hn b a (by omega) (by omega) (by omega) (by omega) lb la)))))
abbrev RRc : List Nat := [63, 73, 74, 75, 76, 77, 78, 79, 80, 81, 82, 83, 84, 85, 86, 87]
/-- what the reference's run leaves: none, too many, a match -/
def RR0 (σ υ : ga_S) (N D M E K : Nat) (ll : List d4) : Prop := υ.1 63 14 = K ∧ υ.1 63 15 = sz (fun a => tv (anP σ (RDN σ K).1 a)) 30 ∧ υ.1 63 18 = 0 ∧ dlh (υ.1 77) (υ.1 63 17) (dfL ((kdL (ofk σ 0 D) (ofk σ 1 E) 8 ++ tif (usC σ 0 N = usC σ 1 M) [] [(2, 0, usC σ 0 N, usC σ 1 M)]) ++ ll) (clP σ (RDN σ K).1 D E 60))
def RR2 (σ υ : ga_S) : Prop := υ.1 63 14 = σ.1 63 14 ∧ υ.1 63 15 = σ.1 63 15 ∧ υ.1 63 18 = 0 ∧ υ.1 63 17 = 0
def RR1 (σ υ : ga_S) (E K : Nat) (c2 : Int → Int) : Prop := υ.1 63 14 = K ∧ υ.1 63 15 = sz (fun a => tv (anP σ (RDN σ K).1 a)) 30 ∧ υ.1 63 18 = 1 ∧ υ.1 63 17 = 0 ∧ dpP (ln σ) c2 (υ.1 78) (lnC σ 30) ∧ ∀ n : Int, 0 ≤ n → n < 40 → υ.1 79 n = gN σ c2 (lnC σ 30) 40 n
def RRo (σ : ga_S) (N D M E K : Nat) (r : Int) (c2 : Int → Int) (ll : List d4) : ga_Po := fun v h => ∃ υ, exc RRc σ υ ∧ h = HP υ ∧ υ.1 63 0 = 0 ∧ (((mcP σ N M E → r = 0) ∧ v = some (Vi 0) ∧ RR0 σ υ N D M E K ll) ∨ (mcP σ N M E ∧ r = 2 ∧ v = some (Vi 2) ∧ RR2 σ υ) ∨ (mcP σ N M E ∧ r = 1 ∧ v = some (Vi 1) ∧ RR1 σ υ E K c2))
theorem W_refrun_X (σ τ : ga_S) (N D M E K : Nat) (r : Int) (c2 : Int → Int) (ll : List d4) (hw : wfR σ N D M E) (hx : exc RRc σ τ) (hm : mcP σ N M E → r = 0) (hk : rfk σ τ K) (h0 : τ.1 63 0 = 0) (h14 : τ.1 63 14 = K) (h15 : τ.1 63 15 = sz (fun a => tv (anP σ (RDN σ K).1 a)) 30) (h18 : τ.1 63 18 = 0) (h17 : τ.1 63 17 = 0) (hll : ll.length ≤ 100) (hl : NmR σ N M ll (-1)) (x y3 y4 : Int) : ga_W 7 0 0 0 0 mX11_run (RRo σ N D M E K r c2 ll) ga_nox 98 [some (Vr 63), some (Vl x), none, some (Vi y3), some (Vi y4), some (Vi 0)] [] (HP τ) := by
  have hc : core τ = core σ := core_exc hx (by decide)
  have X := T_X11_explain τ N D M E (RDN σ K).1 ll (by rw [cg_wfR hc]; exact hw) (by rw [cg_bL hc]; exact hk.1) (by rw [cg_bL hc]; exact hk.2.2.2.2) (by rw [cg_okD hc]; exact hk.2.2.1) h17 hll ((cg_NmR hc).mpr hl)
  rw [cg_ofk hc, cg_usC hc, cg_clP hc] at X
  refine ga_iload dX11_run_98 rfl ?_
  refine ga_if_eq (tgt := 109) dX11_run_100 rfl (fun c_100 => ?_) (fun c_100 => ?_)
  · refine ga_aload_n dX11_run_109 rfl ?_
    refine hc_VP (X) fX11_explain rfl kX11_explain lkX11_245 dX11_run_110 rfl rfl rfl rfl rfl rfl rfl rfl ?_
    rintro v h2 ⟨υ, ⟨w1, w2, w3⟩, w4, w5⟩
    rw [w4, w5]
    refine ga_iconst dX11_run_113 ⟨by decide, by decide⟩ ?_
    refine ga_ret (v := some _) ?_ rfl (by decide) (by decide) ⟨dX11_run_114, _, rfl, rfl⟩
    exact ⟨υ, exc_tr hx w1 (fun _ q => q) (by decide), rfl, by rw [w3 0 (by decide)]; exact h0, Or.inl ⟨hm, rfl, by rw [w3 14 (by decide)]; exact h14, by rw [w3 15 (by decide)]; exact h15, by rw [w3 18 (by decide)]; exact h18, w2⟩⟩
  · exact absurd rfl c_100
theorem T_X11_run (σ : ga_S) (N D M E K n : Nat) (x r : Int) (c2 : Int → Int) (ll : List d4) (hx : 0 ≤ x ∧ x ≤ 2000) (hw : wfR σ N D M E) (hf : fpB σ) (hp : prtB σ) (hK : isK σ K) (hs : mcP σ N M E → Srch σ (RDN σ K).1 x (lnC σ 30) n 0 (fun _ => -1) 0 r c2) (hj : r = 1 → ∀ i j : Int, 0 ≤ i → i < lnC σ 30 → 0 ≤ j → j < lnC σ 30 → c2 i = c2 j → i = j) (hll : ll.length ≤ 100) (hl : NmR σ N M ll (-1)) : ga_Mt 7 0 0 mX11_run [Vr 63, Vl x] (HP σ) (RRo σ N D M E K r c2 ll) ga_nox := by
  have hE2 := hw.2.1.2.2.1
  refine ga_meth [some (Vr 63), some (Vl x), none, none, none, none] rfl rfl (by decide +kernel) (Nat.le_of_ble_eq_true rfl) rfl ?_
  have G : ga_W 7 0 0 0 0 mX11_run (RRo σ N D M E K r c2 ll) ga_nox 20 [some (Vr 63), some (Vl x), none, none, none, none] [Vi 0, Vr 63] (HP σ) := by
    refine hg_putI 0 gfX11_84 dX11_run_20 rfl rfl rfl ?_
    refine ga_aload_n dX11_run_23 rfl ?_
    refine hg_getI 0 grX11_84 dX11_run_24 rfl rfl rfl ?_
    have e0 : (stI σ 63 (ga_up (σ.1 63) 0 0)).1 63 0 = 0 := by rw [stI_at, ga_up_at]
    rw [e0]
    refine ga_if_le (tgt := 32) dX11_run_27 rfl (fun c_27 => ?_) (fun c_27 => ?_)
    rotate_left
    · exact absurd (Int.le_refl 0) c_27
    refine ga_aload_n dX11_run_32 rfl ?_
    refine ga_iconst dX11_run_33 ⟨by decide, by decide⟩ ?_
    refine hg_putZ 18 gfX11_214 dX11_run_34 rfl rfl (by omega) rfl ?_
    refine ga_aload_n dX11_run_37 rfl ?_
    refine ga_iconst dX11_run_38 ⟨by decide, by decide⟩ ?_
    refine hg_putI 17 gfX11_218 dX11_run_39 rfl rfl rfl ?_
    rw [stI_at, stI_st, stI_at, stI_st]
    have f14 : (stI σ 63 (ga_up (ga_up (ga_up (σ.1 63) 0 0) 18 0) 17 0)).1 63 14 = σ.1 63 14 := by rw [stI_at, ga_up_ne _ _ (by decide), ga_up_ne _ _ (by decide), ga_up_ne _ _ (by decide)]
    have f15 : (stI σ 63 (ga_up (ga_up (ga_up (σ.1 63) 0 0) 18 0) 17 0)).1 63 15 = σ.1 63 15 := by rw [stI_at, ga_up_ne _ _ (by decide), ga_up_ne _ _ (by decide), ga_up_ne _ _ (by decide)]
    refine ga_aload_n dX11_run_42 rfl ?_
    refine hg_getI 14 grX11_162 dX11_run_43 rfl rfl rfl ?_
    refine ga_istore_n (lv2 := [_, _, _, _, _, _]) dX11_run_46 (by decide) rfl rfl ?_
    refine ga_aload_n dX11_run_47 rfl ?_
    refine hg_getI 15 grX11_168 dX11_run_48 rfl rfl rfl ?_
    refine ga_istore (lv2 := [_, _, _, _, _, _]) dX11_run_51 (by decide) rfl rfl ?_
    rw [f14, f15]
    refine ga_aload_n dX11_run_53 rfl ?_
    refine ga_lload_n dX11_run_54 rfl ?_
    refine hg_putL 30 gfX11_181 dX11_run_55 rfl rfl rfl ?_
    refine ga_aload_n dX11_run_58 rfl ?_
    refine ga_lconst (z := (0)) dX11_run_59 ⟨by decide, by decide⟩ rfl ?_
    refine hg_putL 31 gfX11_177 dX11_run_60 rfl rfl rfl ?_
    rw [stI_at, stI_st, stI_at, stI_st]
    generalize hF : ga_up (ga_up (ga_up (ga_up (ga_up (σ.1 63) 0 0) 18 0) 17 0) 30 x) 31 0 = F
    have F0 : F 0 = 0 := by rw [← hF]; rfl
    have F14 : F 14 = σ.1 63 14 := by rw [← hF]; rfl
    have F15 : F 15 = σ.1 63 15 := by rw [← hF]; rfl
    have F17 : F 17 = 0 := by rw [← hF]; rfl
    have F18 : F 18 = 0 := by rw [← hF]; rfl
    have F30 : F 30 = x := by rw [← hF]; rfl
    have F31 : F 31 = 0 := by rw [← hF]; rfl
    have x1 : exc [63] σ (stI σ 63 F) := exc_st exc_r (by decide)
    have hc1 : core (stI σ 63 F) = core σ := core_exc x1 (by decide)
    refine ga_aload_n dX11_run_63 rfl ?_
    refine hc_VP (T_X11_refine (stI σ 63 F) N D M E K (by rw [cg_wfR hc1]; exact hw) (by rw [cg_prtB hc1]; exact hp) ((cg_isK hc1).mpr hK)) fX11_refine rfl kX11_refine lkX11_236 dX11_run_64 rfl rfl rfl rfl rfl rfl rfl rfl ?_
    rintro v h2 ⟨τ, w1, w2, w3, w4, w5⟩
    rw [w4, w5]
    rw [cg_rfk hc1] at w2
    rw [cg_anP hc1, anP_cg w2.1, stI_at] at w3
    have x2 : exc RF σ τ := exc_tr x1 w1 (by decide) (fun _ q => q)
    have hc2 : core τ = core σ := core_exc x2 (by decide)
    have t63 : ∀ j : Int, j ≠ 14 → j ≠ 15 → τ.1 63 j = F j := fun j a b => by rw [w3, ga_up_ne _ _ b, ga_up_ne _ _ a]
    have t14 : τ.1 63 14 = K := by rw [w3, ga_up_ne _ _ (by decide), ga_up_at]
    have t15 : τ.1 63 15 = sz (fun a => tv (anP σ (RDN σ K).1 a)) 30 := by rw [w3, ga_up_at]
    refine ga_aload_n dX11_run_67 rfl ?_
    refine hc_VP (T_X11_isMatched τ N D M E n (RDN σ K).1 x r c2 (by rw [cg_wfR hc2]; exact hw) (by rw [cg_fpB hc2]; exact hf) (by rw [t63 30 (by decide) (by decide)]; exact F30) (by rw [t63 31 (by decide) (by decide)]; exact F31) (by rw [cg_bL hc2]; exact w2.1) hx.1 hx.2 (fun q => by rw [cg_mcP hc2] at q; rw [cg_lnC hc2]; exact (cg_Srch hc2).mpr (hs q))) fX11_isMatched rfl kX11_isMatched lkX11_239 dX11_run_68 rfl rfl rfl rfl rfl rfl rfl rfl ?_
    intro v h2 hcase
    unfold MPo at hcase
    rw [cg_mcP hc2, cg_lnC hc2, cg_ln hc2] at hcase
    rcases hcase with ⟨m1, υ, q1, q2, q3, q4⟩ | ⟨m1, υ, q1, q2, q3, t, q4, q5⟩
    · rw [q2, q3]
      have u63 : ∀ j : Int, j ≠ 22 → υ.1 63 j = τ.1 63 j := fun j a => by rw [q4, ga_up_ne _ _ a]
      have x3 : exc RRc σ υ := exc_tr x2 q1 (by decide) (by decide)
      have u31 : υ.1 63 31 = 0 := by rw [u63 31 (by decide), t63 31 (by decide) (by decide)]; exact F31
      have u30 : υ.1 63 30 = x := by rw [u63 30 (by decide), t63 30 (by decide) (by decide)]; exact F30
      refine ga_istore (lv2 := [_, _, _, _, _, _]) dX11_run_71 (by decide) rfl rfl ?_
      refine ga_aload_n dX11_run_73 rfl ?_
      refine hg_getL 31 grX11_177 dX11_run_74 rfl rfl rfl ?_
      refine ga_aload_n dX11_run_77 rfl ?_
      refine hg_getL 30 grX11_181 dX11_run_78 rfl rfl rfl ?_
      refine ga_lcmp dX11_run_81 ?_
      refine ga_if_le (tgt := 98) dX11_run_82 rfl (fun c_82 => ?_) (fun c_82 => ?_)
      · refine W_refrun_X σ υ N D M E K r c2 ll hw x3 (fun q => absurd q m1) ?_ (by rw [u63 0 (by decide), t63 0 (by decide) (by decide)]; exact F0) (by rw [u63 14 (by decide)]; exact t14) (by rw [u63 15 (by decide)]; exact t15) (by rw [u63 18 (by decide), t63 18 (by decide) (by decide)]; exact F18) (by rw [u63 17 (by decide), t63 17 (by decide) (by decide)]; exact F17) hll hl _ _ _
        unfold rfk
        rw [q1.1 73 (by decide), q1.1 74 (by decide)]
        exact w2
      · rw [u31, u30] at c_82
        have := lc_le (x := 0) (y := x)
        omega
    · have u63 : ∀ j : Int, j ≠ 22 → j ≠ 31 → υ.1 63 j = τ.1 63 j := fun j a b => by rw [q4, ga_up_ne _ _ b, ga_up_ne _ _ a]
      have x3 : exc RRc σ υ := exc_tr x2 q1 (by decide) (by decide)
      have u31 : υ.1 63 31 = t := by rw [q4, ga_up_at]
      have u30 : υ.1 63 30 = x := by rw [u63 30 (by decide) (by decide), t63 30 (by decide) (by decide)]; exact F30
      have u22 : υ.1 63 22 = lnC σ 30 := by rw [q4, ga_up_ne _ _ (by decide), ga_up_at]
      have u0 : υ.1 63 0 = 0 := by rw [u63 0 (by decide) (by decide), t63 0 (by decide) (by decide)]; exact F0
      have u14 : υ.1 63 14 = K := by rw [u63 14 (by decide) (by decide)]; exact t14
      have u15 : υ.1 63 15 = sz (fun a => tv (anP σ (RDN σ K).1 a)) 30 := by rw [u63 15 (by decide) (by decide)]; exact t15
      have u17 : υ.1 63 17 = 0 := by rw [u63 17 (by decide) (by decide), t63 17 (by decide) (by decide)]; exact F17
      have u18 : υ.1 63 18 = 0 := by rw [u63 18 (by decide) (by decide), t63 18 (by decide) (by decide)]; exact F18
      rcases q5 with ⟨s1, s2, s3⟩ | ⟨s1, s2, s3⟩ | ⟨s1, s2, s3, s4, s5⟩
      · rw [s2, q2]
        refine ga_istore (lv2 := [_, _, _, _, _, _]) dX11_run_71 (by decide) rfl rfl ?_
        refine ga_aload_n dX11_run_73 rfl ?_
        refine hg_getL 31 grX11_177 dX11_run_74 rfl rfl rfl ?_
        refine ga_aload_n dX11_run_77 rfl ?_
        refine hg_getL 30 grX11_181 dX11_run_78 rfl rfl rfl ?_
        refine ga_lcmp dX11_run_81 ?_
        refine ga_if_le (tgt := 98) dX11_run_82 rfl (fun c_82 => ?_) (fun c_82 => ?_)
        · rw [u31, u30] at c_82
          have := lc_le (x := t) (y := x)
          omega
        · refine ga_aload_n dX11_run_85 rfl ?_
          refine ga_iload_n dX11_run_86 rfl ?_
          refine hg_putI 14 gfX11_162 dX11_run_87 rfl rfl rfl ?_
          refine ga_aload_n dX11_run_90 rfl ?_
          refine ga_iload dX11_run_91 rfl ?_
          refine hg_putI 15 gfX11_168 dX11_run_93 rfl rfl rfl ?_
          rw [stI_at, stI_st]
          refine ga_iconst dX11_run_96 ⟨by decide, by decide⟩ ?_
          refine ga_ret (v := some _) ?_ rfl (by decide) (by decide) ⟨dX11_run_97, _, rfl, rfl⟩
          refine ⟨stI υ 63 (ga_up (ga_up (υ.1 63) 14 (σ.1 63 14)) 15 (σ.1 63 15)), exc_st x3 (by decide), rfl, ?_, Or.inr (Or.inl ⟨m1, s1, rfl, ?_, ?_, ?_, ?_⟩)⟩
          · rw [stI_at, ga_up_ne _ _ (by decide), ga_up_ne _ _ (by decide)]; exact u0
          · rw [stI_at, ga_up_ne _ _ (by decide), ga_up_at]
          · rw [stI_at, ga_up_at]
          · rw [stI_at, ga_up_ne _ _ (by decide), ga_up_ne _ _ (by decide)]; exact u18
          · rw [stI_at, ga_up_ne _ _ (by decide), ga_up_ne _ _ (by decide)]; exact u17
      · rw [s2, q2]
        refine ga_istore (lv2 := [_, _, _, _, _, _]) dX11_run_71 (by decide) rfl rfl ?_
        refine ga_aload_n dX11_run_73 rfl ?_
        refine hg_getL 31 grX11_177 dX11_run_74 rfl rfl rfl ?_
        refine ga_aload_n dX11_run_77 rfl ?_
        refine hg_getL 30 grX11_181 dX11_run_78 rfl rfl rfl ?_
        refine ga_lcmp dX11_run_81 ?_
        refine ga_if_le (tgt := 98) dX11_run_82 rfl (fun c_82 => ?_) (fun c_82 => ?_)
        · refine W_refrun_X σ υ N D M E K r c2 ll hw x3 (fun _ => s1) ?_ u0 u14 u15 u18 u17 hll hl _ _ _
          unfold rfk
          rw [q1.1 73 (by decide), q1.1 74 (by decide)]
          exact w2
        · rw [u31, u30] at c_82
          have := lc_le (x := t) (y := x)
          omega
      · rw [s2, q2]
        obtain ⟨L, hL⟩ : ∃ L : Nat, lnC σ 30 = L := ⟨(lnC σ 30).toNat, by have := lnC_b σ 30; omega⟩
        have hL3 := lnC_b σ 30
        rw [cg_gN hc2] at s5
        rw [hL] at q3 s4 s5 u22
        have hj' := hj s1
        rw [hL] at hj'
        have lnI := fun i : Int => fun a : 0 ≤ i => fun b : i < L => ln_in (β := σ) (e := 30) (Nat.le_refl _) i a (by omega)
        refine ga_istore (lv2 := [_, _, _, _, _, _]) dX11_run_71 (by decide) rfl rfl ?_
        refine ga_aload_n dX11_run_73 rfl ?_
        refine hg_getL 31 grX11_177 dX11_run_74 rfl rfl rfl ?_
        refine ga_aload_n dX11_run_77 rfl ?_
        refine hg_getL 30 grX11_181 dX11_run_78 rfl rfl rfl ?_
        refine ga_lcmp dX11_run_81 ?_
        refine ga_if_le (tgt := 98) dX11_run_82 rfl (fun c_82 => ?_) (fun c_82 => ?_)
        rotate_left
        · rw [u31, u30] at c_82
          have := lc_le (x := t) (y := x)
          omega
        refine ga_iload dX11_run_98 rfl ?_
        refine ga_if_eq (tgt := 109) dX11_run_100 rfl (fun c_100 => ?_) (fun c_100 => ?_)
        · exact absurd c_100 (by decide)
        · refine ga_aload_n dX11_run_103 rfl ?_
          refine hc_VP (T_X11_keep υ L u22 (by omega) (fun i a b => by rw [q3 i a b, (s4 i a b).1]; have := lnI i a b; have := s4 i a b; omega) (fun i j a b a' b' e => by rw [q3 i a b, q3 j a' b'] at e; exact ln_inj i j a (by omega) a' (by omega) e) (fun i j a b a' b' e => by rw [(s4 i a b).1, (s4 j a' b').1] at e; exact hj' i j a b a' b' e)) fX11_keep rfl kX11_keep lkX11_242 dX11_run_104 rfl rfl rfl rfl rfl rfl rfl rfl ?_
          rintro v h2 ⟨ω, y1, y2, y3, y4, y5, y6⟩
          rw [y5, y6]
          refine ga_iconst dX11_run_107 ⟨by decide, by decide⟩ ?_
          refine ga_ret (v := some _) ?_ rfl (by decide) (by decide) ⟨dX11_run_108, _, rfl, rfl⟩
          refine ⟨ω, exc_tr x3 y1 (fun _ q => q) (by decide), rfl, ?_, Or.inr (Or.inr ⟨m1, s1, rfl, ?_, ?_, ?_, ?_, ?_, fun n a b => ?_⟩)⟩
          · rw [y2, ga_up_ne _ _ (by decide)]; exact u0
          · rw [y2, ga_up_ne _ _ (by decide)]; exact u14
          · rw [y2, ga_up_ne _ _ (by decide)]; exact u15
          · rw [y2, ga_up_at]
          · rw [y2, ga_up_ne _ _ (by decide)]; exact u17
          · rw [hL]
            exact dpP_cg y3 (fun i a b => q3 i a b) (fun i a b => (s4 i a b).1)
          · rw [y4 n a b, hL]
            exact s5 n a b
  refine ga_aload_n dX11_run_0 rfl ?_
  refine ga_lload_n dX11_run_1 rfl ?_
  refine ga_lconst (z := (0)) dX11_run_2 ⟨by decide, by decide⟩ rfl ?_
  refine ga_lcmp dX11_run_3 ?_
  refine ga_if_lt (tgt := 15) dX11_run_4 rfl (fun c_4 => ?_) (fun c_4 => ?_)
  · have := lc_lt (x := x) (y := 0)
    omega
  · refine ga_lload_n dX11_run_7 rfl ?_
    refine ga_ldc2l (z := 2000) dX11_run_8 cnX11_234 rfl ⟨by decide, by decide⟩ ?_
    refine ga_lcmp dX11_run_11 ?_
    refine ga_if_le (tgt := 19) dX11_run_12 rfl (fun c_12 => ?_) (fun c_12 => ?_)
    · refine ga_iconst dX11_run_19 ⟨by decide, by decide⟩ ?_
      exact G
    · have := lc_le (x := x) (y := 2000)
      omega
theorem T_X11_run_X (x : Int) (σ : ga_S) (hx : x < 0 ∨ 2000 < x) : ga_Mt 7 0 0 mX11_run [Vr 63, Vl x] (HP σ) (gis (some (Vi 0)) (cd0 σ 1)) ga_nox := by
  refine ga_meth [some (Vr 63), some (Vl x), none, none, none, none] rfl rfl (by decide +kernel) (Nat.le_of_ble_eq_true rfl) rfl ?_
  have G : ga_W 7 0 0 0 0 mX11_run (gis (some (Vi 0)) (cd0 σ 1)) ga_nox 20 [some (Vr 63), some (Vl x), none, none, none, none] [Vi 1, Vr 63] (HP σ) := by
    refine hg_putI 0 gfX11_84 dX11_run_20 rfl rfl rfl ?_
    refine ga_aload_n dX11_run_23 rfl ?_
    refine hg_getI 0 grX11_84 dX11_run_24 rfl rfl rfl ?_
    have e0 : (stI σ 63 (ga_up (σ.1 63) 0 1)).1 63 0 = 1 := by rw [stI_at, ga_up_at]
    rw [e0]
    refine ga_if_le (tgt := 32) dX11_run_27 rfl (fun c_27 => ?_) (fun c_27 => ?_)
    · exact absurd c_27 (by decide)
    · refine ga_iconst dX11_run_30 ⟨by decide, by decide⟩ ?_
      refine ga_ret (v := some _) ?_ rfl (by decide) (by decide) ⟨dX11_run_31, _, rfl, rfl⟩
      exact ⟨rfl, rfl⟩
  refine ga_aload_n dX11_run_0 rfl ?_
  refine ga_lload_n dX11_run_1 rfl ?_
  refine ga_lconst (z := (0)) dX11_run_2 ⟨by decide, by decide⟩ rfl ?_
  refine ga_lcmp dX11_run_3 ?_
  refine ga_if_lt (tgt := 15) dX11_run_4 rfl (fun c_4 => ?_) (fun c_4 => ?_)
  · refine ga_iconst dX11_run_15 ⟨by decide, by decide⟩ ?_
    refine ga_goto (tgt := 20) dX11_run_16 rfl ?_
    exact G
  · refine ga_lload_n dX11_run_7 rfl ?_
    refine ga_ldc2l (z := 2000) dX11_run_8 cnX11_234 rfl ⟨by decide, by decide⟩ ?_
    refine ga_lcmp dX11_run_11 ?_
    refine ga_if_le (tgt := 19) dX11_run_12 rfl (fun c_12 => ?_) (fun c_12 => ?_)
    · have h1 := lc_le (x := x) (y := 2000)
      have h2 := lc_lt (x := x) (y := 0)
      omega
    · refine ga_iconst dX11_run_15 ⟨by decide, by decide⟩ ?_
      refine ga_goto (tgt := 20) dX11_run_16 rfl ?_
      exact G
