-- Match: all of it
def apP (σ : ga_S) (D : Int) : Prop := ∀ d : Int, 0 ≤ d → d < D → σ.1 7 d = 0 → paP σ d
/-- what pairAgrees wants of a device -/
def paW (σ : ga_S) (d : Int) : Prop := (0 ≤ σ.1 5 d ∧ σ.1 5 d < 8) ∧ (0 ≤ σ.1 56 d ∧ σ.1 56 d < 30) ∧ (0 ≤ σ.1 12 (σ.1 56 d) ∧ σ.1 12 (σ.1 56 d) < 8) ∧ (∀ k : Int, 0 ≤ k → k < 4 → -1 ≤ σ.1 8 (d * 4 + k) ∧ σ.1 8 (d * 4 + k) < 40) ∧ vf_n64 (FP.dsub (sgr (σ.2 6 d) (σ.2 13 (σ.1 56 d))) (sls (σ.2 6 d) (σ.2 13 (σ.1 56 d)))) ∧ vf_n64 (FP.dmul (σ.2 18 (σ.1 5 d)) (sgr (σ.2 6 d) (σ.2 13 (σ.1 56 d))))
theorem T_X5_allPairsAgree (σ : ga_S) (D : Nat) (hD : σ.1 2 3 = D) (hD2 : D ≤ 30) (hw : ∀ d : Int, 0 ≤ d → d < D → σ.1 7 d = 0 → paW σ d) : ga_Mt 3 0 0 mX5_allPairsAgree [Vr 55, Vr 1] (HP σ) (gis (some (Vi (tv (apP σ D)))) σ) ga_nox := by
  refine ga_meth [some (Vr 55), some (Vr 1), none] rfl rfl (by decide +kernel) (Nat.le_of_ble_eq_true rfl) rfl ?_
  refine ga_iconst dX5_allPairsAgree_0 ⟨by decide, by decide⟩ ?_
  refine ga_istore_n (lv2 := [_, _, _]) dX5_allPairsAgree_1 (by decide) rfl rfl ?_
  refine (ga_loop D (fun i => apP σ i → ga_W 3 0 0 0 0 mX5_allPairsAgree (gis (some (Vi (tv (apP σ D)))) σ) ga_nox 2 [some (Vr 55), some (Vr 1), some (Vi (i : Int))] [] (HP σ)) ?_ ?_ 0 (Nat.zero_le _) (fun d a b => by omega) : _)
  · intro h
    refine ga_iload_n dX5_allPairsAgree_2 rfl ?_
    refine ga_aload_n dX5_allPairsAgree_3 rfl ?_
    refine hg_getR grX5_37 dX5_allPairsAgree_4 rfl rfl ?_
    refine hg_getI 3 grX5_57 dX5_allPairsAgree_7 rfl rfl rfl ?_
    refine ga_icmp_ge (tgt := 42) dX5_allPairsAgree_10 rfl (fun c_10 => ?_) (fun c_10 => ?_)
    · refine ga_iconst dX5_allPairsAgree_42 ⟨by decide, by decide⟩ ?_
      refine ga_ret (v := some _) ?_ rfl (by decide) (by decide) ⟨dX5_allPairsAgree_43, _, rfl, rfl⟩
      exact ⟨tvt h, rfl⟩
    · omega
  · intro i hi k h
    have GO : (σ.1 7 (i : Int) = 0 → paP σ i) → ga_W 3 0 0 0 0 mX5_allPairsAgree (gis (some (Vi (tv (apP σ D)))) σ) ga_nox 36 [some (Vr 55), some (Vr 1), some (Vi (i : Int))] [] (HP σ) := by
      intro hn
      refine ga_iinc (z := ((i + 1 : Nat) : Int)) (lv2 := [_, _, _]) dX5_allPairsAgree_36 (by decide) rfl rfl (by omega) (⟨by omega, by omega⟩) rfl ?_
      refine ga_goto (tgt := 2) dX5_allPairsAgree_39 rfl ?_
      refine k (fun d a b => ?_)
      rcases Int.lt_or_le d i with w | w
      · exact h d a w
      · rw [show d = i by omega]; exact hn
    refine ga_iload_n dX5_allPairsAgree_2 rfl ?_
    refine ga_aload_n dX5_allPairsAgree_3 rfl ?_
    refine hg_getR grX5_37 dX5_allPairsAgree_4 rfl rfl ?_
    refine hg_getI 3 grX5_57 dX5_allPairsAgree_7 rfl rfl rfl ?_
    refine ga_icmp_ge (tgt := 42) dX5_allPairsAgree_10 rfl (fun c_10 => ?_) (fun c_10 => ?_)
    · omega
    · refine ga_aload_n dX5_allPairsAgree_13 rfl ?_
      refine hg_getR grX5_37 dX5_allPairsAgree_14 rfl rfl ?_
      refine hg_getR grX5_63 dX5_allPairsAgree_17 rfl rfl ?_
      refine ga_iload_n dX5_allPairsAgree_20 rfl ?_
      refine hg_zald dX5_allPairsAgree_21 rfl (by omega) (by omega) ?_
      refine ga_if_ne (tgt := 36) dX5_allPairsAgree_22 rfl (fun c_22 => ?_) (fun c_22 => ?_)
      · exact GO (fun z => absurd z c_22)
      · obtain ⟨w1, w2, w3, w4, w5, w6⟩ := hw i (by omega) (by omega) c_22
        refine ga_aload_n dX5_allPairsAgree_25 rfl ?_
        refine ga_aload_n dX5_allPairsAgree_26 rfl ?_
        refine ga_iload_n dX5_allPairsAgree_27 rfl ?_
        refine hc_V (T_X5_pairAgrees i σ (by omega) (by omega) w1 w2 w3 w4 w5 w6) fX5_pairAgrees rfl kX5_pairAgrees lkX5_76 dX5_allPairsAgree_28 rfl rfl rfl rfl rfl rfl rfl rfl ?_
        refine ga_if_ne (tgt := 36) dX5_allPairsAgree_31 rfl (fun c_31 => ?_) (fun c_31 => ?_)
        · rw [tv_ne0] at c_31
          exact GO (fun _ => c_31)
        · rw [tv_eq0] at c_31
          refine ga_iconst dX5_allPairsAgree_34 ⟨by decide, by decide⟩ ?_
          refine ga_ret (v := some _) ?_ rfl (by decide) (by decide) ⟨dX5_allPairsAgree_35, _, rfl, rfl⟩
          exact ⟨tvf (fun q => c_31 (q i (by omega) (by omega) c_22)), rfl⟩
abbrev mnP (σ : ga_S) (N D M E : Nat) : Prop := σ.1 55 0 ≠ 0 ∧ ppP (σ.1 7) (σ.1 14) (σ.1 56) D ∧ ppP (σ.1 14) (σ.1 7) (σ.1 57) E ∧ puP (σ.1 4) (σ.1 11) (σ.1 3) (σ.1 10) (σ.1 58) N ∧ puP (σ.1 11) (σ.1 4) (σ.1 10) (σ.1 3) (σ.1 59) M ∧ apP σ D
theorem T_X5_isMatchNow (σ : ga_S) (N D M E : Nat) (hN : σ.1 2 0 = N) (hN2 : N ≤ 40) (hD : σ.1 2 3 = D) (hD2 : D ≤ 30) (hM : σ.1 9 0 = M) (hM2 : M ≤ 40) (hE : σ.1 9 3 = E) (hE2 : E ≤ 30) (p56 : ∀ d : Int, 0 ≤ d → d < D → -1 ≤ σ.1 56 d ∧ σ.1 56 d < 30) (p57 : ∀ d : Int, 0 ≤ d → d < E → -1 ≤ σ.1 57 d ∧ σ.1 57 d < 30) (p58 : ∀ d : Int, 0 ≤ d → d < N → -1 ≤ σ.1 58 d ∧ σ.1 58 d < 40) (p59 : ∀ d : Int, 0 ≤ d → d < M → -1 ≤ σ.1 59 d ∧ σ.1 59 d < 40) (hw : ppP (σ.1 7) (σ.1 14) (σ.1 56) D → ∀ d : Int, 0 ≤ d → d < D → σ.1 7 d = 0 → paW σ d) : ga_Mt 4 0 0 mX5_isMatchNow [Vr 55, Vr 1] (HP σ) (gis (some (Vi (tv (mnP σ N D M E)))) σ) ga_nox := by
  refine ga_meth [some (Vr 55), some (Vr 1)] rfl rfl (by decide +kernel) (Nat.le_of_ble_eq_true rfl) rfl ?_
  refine ga_aload_n dX5_isMatchNow_0 rfl ?_
  refine hg_getI 0 grX5_9 dX5_isMatchNow_1 rfl rfl rfl ?_
  refine ga_if_eq (tgt := 91) dX5_isMatchNow_4 rfl (fun c_4 => ?_) (fun c_4 => ?_)
  · refine ga_iconst dX5_isMatchNow_91 ⟨by decide, by decide⟩ ?_
    refine ga_ret (v := some _) ?_ rfl (by decide) (by decide) ⟨dX5_isMatchNow_92, _, rfl, rfl⟩
    exact ⟨tvf (fun q => q.1 c_4), rfl⟩
  · refine ga_aload_n dX5_isMatchNow_7 rfl ?_
    refine hg_getR grX5_37 dX5_isMatchNow_8 rfl rfl ?_
    refine ga_aload_n dX5_isMatchNow_11 rfl ?_
    refine hg_getR grX5_43 dX5_isMatchNow_12 rfl rfl ?_
    refine ga_aload_n dX5_isMatchNow_15 rfl ?_
    refine hg_getR grX5_15 dX5_isMatchNow_16 rfl rfl ?_
    refine hc_S (T_X5_pairsPresent_2 σ D hD hD2 p56) fX5_pairsPresent rfl kX5_pairsPresent lkX5_46 dX5_isMatchNow_19 rfl rfl rfl rfl rfl rfl ?_
    refine ga_if_eq (tgt := 91) dX5_isMatchNow_22 rfl (fun c_22 => ?_) (fun c_22 => ?_)
    · rw [tv_eq0] at c_22
      refine ga_iconst dX5_isMatchNow_91 ⟨by decide, by decide⟩ ?_
      refine ga_ret (v := some _) ?_ rfl (by decide) (by decide) ⟨dX5_isMatchNow_92, _, rfl, rfl⟩
      exact ⟨tvf (fun q => c_22 q.2.1), rfl⟩
    · rw [tv_ne0] at c_22
      refine ga_aload_n dX5_isMatchNow_25 rfl ?_
      refine hg_getR grX5_43 dX5_isMatchNow_26 rfl rfl ?_
      refine ga_aload_n dX5_isMatchNow_29 rfl ?_
      refine hg_getR grX5_37 dX5_isMatchNow_30 rfl rfl ?_
      refine ga_aload_n dX5_isMatchNow_33 rfl ?_
      refine hg_getR grX5_19 dX5_isMatchNow_34 rfl rfl ?_
      refine hc_S (T_X5_pairsPresent_9 σ E hE hE2 p57) fX5_pairsPresent rfl kX5_pairsPresent lkX5_46 dX5_isMatchNow_37 rfl rfl rfl rfl rfl rfl ?_
      refine ga_if_eq (tgt := 91) dX5_isMatchNow_40 rfl (fun c_40 => ?_) (fun c_40 => ?_)
      · rw [tv_eq0] at c_40
        refine ga_iconst dX5_isMatchNow_91 ⟨by decide, by decide⟩ ?_
        refine ga_ret (v := some _) ?_ rfl (by decide) (by decide) ⟨dX5_isMatchNow_92, _, rfl, rfl⟩
        exact ⟨tvf (fun q => c_40 q.2.2.1), rfl⟩
      · rw [tv_ne0] at c_40
        refine ga_aload_n dX5_isMatchNow_43 rfl ?_
        refine hg_getR grX5_37 dX5_isMatchNow_44 rfl rfl ?_
        refine ga_aload_n dX5_isMatchNow_47 rfl ?_
        refine hg_getR grX5_43 dX5_isMatchNow_48 rfl rfl ?_
        refine ga_aload_n dX5_isMatchNow_51 rfl ?_
        refine hg_getR grX5_22 dX5_isMatchNow_52 rfl rfl ?_
        refine hc_S (T_X5_pairsUsed_2 σ N hN hN2 p58) fX5_pairsUsed rfl kX5_pairsUsed lkX5_50 dX5_isMatchNow_55 rfl rfl rfl rfl rfl rfl ?_
        refine ga_if_eq (tgt := 91) dX5_isMatchNow_58 rfl (fun c_58 => ?_) (fun c_58 => ?_)
        · rw [tv_eq0] at c_58
          refine ga_iconst dX5_isMatchNow_91 ⟨by decide, by decide⟩ ?_
          refine ga_ret (v := some _) ?_ rfl (by decide) (by decide) ⟨dX5_isMatchNow_92, _, rfl, rfl⟩
          exact ⟨tvf (fun q => c_58 q.2.2.2.1), rfl⟩
        · rw [tv_ne0] at c_58
          refine ga_aload_n dX5_isMatchNow_61 rfl ?_
          refine hg_getR grX5_43 dX5_isMatchNow_62 rfl rfl ?_
          refine ga_aload_n dX5_isMatchNow_65 rfl ?_
          refine hg_getR grX5_37 dX5_isMatchNow_66 rfl rfl ?_
          refine ga_aload_n dX5_isMatchNow_69 rfl ?_
          refine hg_getR grX5_25 dX5_isMatchNow_70 rfl rfl ?_
          refine hc_S (T_X5_pairsUsed_9 σ M hM hM2 p59) fX5_pairsUsed rfl kX5_pairsUsed lkX5_50 dX5_isMatchNow_73 rfl rfl rfl rfl rfl rfl ?_
          refine ga_if_eq (tgt := 91) dX5_isMatchNow_76 rfl (fun c_76 => ?_) (fun c_76 => ?_)
          · rw [tv_eq0] at c_76
            refine ga_iconst dX5_isMatchNow_91 ⟨by decide, by decide⟩ ?_
            refine ga_ret (v := some _) ?_ rfl (by decide) (by decide) ⟨dX5_isMatchNow_92, _, rfl, rfl⟩
            exact ⟨tvf (fun q => c_76 q.2.2.2.2.1), rfl⟩
          · rw [tv_ne0] at c_76
            refine ga_aload_n dX5_isMatchNow_79 rfl ?_
            refine ga_aload_n dX5_isMatchNow_80 rfl ?_
            refine hc_V (T_X5_allPairsAgree σ D hD hD2 (hw c_22)) fX5_allPairsAgree rfl kX5_allPairsAgree lkX5_53 dX5_isMatchNow_81 rfl rfl rfl rfl rfl rfl rfl rfl ?_
            refine ga_if_eq (tgt := 91) dX5_isMatchNow_84 rfl (fun c_84 => ?_) (fun c_84 => ?_)
            · rw [tv_eq0] at c_84
              refine ga_iconst dX5_isMatchNow_91 ⟨by decide, by decide⟩ ?_
              refine ga_ret (v := some _) ?_ rfl (by decide) (by decide) ⟨dX5_isMatchNow_92, _, rfl, rfl⟩
              exact ⟨tvf (fun q => c_84 q.2.2.2.2.2), rfl⟩
            · rw [tv_ne0] at c_84
              refine ga_iconst dX5_isMatchNow_87 ⟨by decide, by decide⟩ ?_
              refine ga_goto (tgt := 92) dX5_isMatchNow_88 rfl ?_
              refine ga_ret (v := some _) ?_ rfl (by decide) (by decide) ⟨dX5_isMatchNow_92, _, rfl, rfl⟩
              exact ⟨tvt ⟨c_4, c_22, c_40, c_58, c_76, c_84⟩, rfl⟩
