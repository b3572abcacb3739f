-- Designs
theorem T_X1_sideOf0 (σ : ga_S) : ga_Mt 0 0 0 mX1_sideOf [Vr 1, Vi 0] (HP σ) (gis (some (Vr 2)) σ) ga_nox := by
  refine ga_meth [some (Vr 1), some (Vi 0)] rfl rfl (by decide +kernel) (Nat.le_of_ble_eq_true rfl) rfl ?_
  refine ga_iload_n dX1_sideOf_0 rfl ?_
  refine ga_if_ne (tgt := 11) dX1_sideOf_1 rfl (fun c_1 => ?_) (fun c_1 => ?_)
  · exact absurd rfl c_1
  · refine ga_aload_n dX1_sideOf_4 rfl ?_
    refine hg_getR grX1_12 dX1_sideOf_5 rfl rfl ?_
    refine ga_goto (tgt := 15) dX1_sideOf_8 rfl ?_
    refine ga_ret (v := some _) ?_ rfl (by decide) (by decide) ⟨dX1_sideOf_15, _, rfl, Or.inl ⟨_, rfl⟩⟩
    exact ⟨rfl, rfl⟩
theorem T_X1_sideOf1 (x : Int) (hx : x ≠ 0) (σ : ga_S) : ga_Mt 0 0 0 mX1_sideOf [Vr 1, Vi x] (HP σ) (gis (some (Vr 9)) σ) ga_nox := by
  refine ga_meth [some (Vr 1), some (Vi x)] rfl rfl (by decide +kernel) (Nat.le_of_ble_eq_true rfl) rfl ?_
  refine ga_iload_n dX1_sideOf_0 rfl ?_
  refine ga_if_ne (tgt := 11) dX1_sideOf_1 rfl (fun c_1 => ?_) (fun c_1 => ?_)
  · refine ga_aload_n dX1_sideOf_11 rfl ?_
    refine hg_getR grX1_18 dX1_sideOf_12 rfl rfl ?_
    refine ga_ret (v := some _) ?_ rfl (by decide) (by decide) ⟨dX1_sideOf_15, _, rfl, Or.inl ⟨_, rfl⟩⟩
    exact ⟨rfl, rfl⟩
  · exact absurd c_1 hx
noncomputable def usedS (s : Nat) (σ : ga_S) : Int → Int := usedF (σ.1 s 0) (σ.1 (s+1)) (σ.1 (s+5)) (σ.1 (s+6)) (σ.1 (s+2)) (4 * σ.1 s 3)
theorem T_X1_markUsedNets (σ : ga_S) (N D N2 D2 : Nat) (hN : σ.1 2 0 = N) (hN2 : N ≤ 40) (hD : σ.1 2 3 = D) (hD2 : D ≤ 30) (hpin : ∀ j : Int, 0 ≤ j → j < 4 * D → -1 ≤ σ.1 8 j ∧ σ.1 8 j < N)
    (gN : σ.1 9 0 = N2) (gN2 : N2 ≤ 40) (gD : σ.1 9 3 = D2) (gD2 : D2 ≤ 30) (gpin : ∀ j : Int, 0 ≤ j → j < 4 * D2 → -1 ≤ σ.1 15 j ∧ σ.1 15 j < N2) :
    ga_Mt 2 0 0 mX1_markUsedNets [Vr 1] (HP σ) (gis none (stI (stI σ 4 (usedS 2 σ)) 11 (usedS 9 σ))) ga_nox := by
  have e2 : usedS 2 σ = usedF N (σ.1 3) (σ.1 7) (σ.1 8) (σ.1 4) (4 * D) := by unfold usedS; rw [hN, hD]
  have e9 : usedS 9 σ = usedF N2 (σ.1 10) (σ.1 14) (σ.1 15) (σ.1 11) (4 * D2) := by unfold usedS; rw [gN, gD]
  rw [e2, e9]
  refine ga_meth [some (Vr 1)] rfl rfl (by decide +kernel) (Nat.le_of_ble_eq_true rfl) rfl ?_
  refine ga_aload_n dX1_markUsedNets_0 rfl ?_
  refine hg_getR grX1_12 dX1_markUsedNets_1 rfl rfl ?_
  refine hc_Vv (T_X9_markUsedNets_2 σ N D hN hN2 hD hD2 hpin) fX9_markUsedNets rfl kX9_markUsedNets lkX1_28 dX1_markUsedNets_4 rfl rfl rfl rfl rfl rfl rfl rfl ?_
  refine ga_aload_n dX1_markUsedNets_7 rfl ?_
  refine hg_getR grX1_18 dX1_markUsedNets_8 rfl rfl ?_
  refine hc_Vv (T_X9_markUsedNets_9 (stI σ 4 (usedF N (σ.1 3) (σ.1 7) (σ.1 8) (σ.1 4) (4 * D))) N2 D2 gN gN2 gD gD2 gpin) fX9_markUsedNets rfl kX9_markUsedNets lkX1_28 dX1_markUsedNets_11 rfl rfl rfl rfl rfl rfl rfl rfl ?_
  refine ga_ret (v := none) ?_ rfl (by decide) (by decide) ⟨dX1_markUsedNets_14, rfl⟩
  exact ⟨rfl, rfl⟩
/-- the least name above another number that one side alone has, or -1 -/
def unev (p q : Int → Int) (N M : Nat) : Nat → Int → Int
  | 0, _ => -1
  | n + 1, a => if nameF p a N ≠ nameF q a M then (if nameF p a N = -1 ∨ (nameF q a M ≠ -1 ∧ nameF q a M < nameF p a N) then nameF q a M else nameF p a N) else if nameF p a N = -1 then -1 else unev p q N M n (nameF p a N)
theorem T_X1_nextUnevenName (a : Int) (σ : ga_S) (N M : Nat) (hN : σ.1 2 0 = N) (hN2 : N ≤ 40) (gN : σ.1 9 0 = M) (gN2 : M ≤ 40) : ga_Mt 1 0 0 mX1_nextUnevenName [Vr 1, Vi a] (HP σ) (gis (some (Vi (unev (σ.1 3) (σ.1 10) N M 80 a))) σ) ga_nox := by
  refine ga_meth [some (Vr 1), some (Vi a), none, none, none, none] rfl rfl (by decide +kernel) (Nat.le_of_ble_eq_true rfl) rfl ?_
  refine ga_iload_n dX1_nextUnevenName_0 rfl ?_
  refine ga_istore_n (lv2 := [_, _, _, _, _, _]) dX1_nextUnevenName_1 (by decide) rfl rfl ?_
  refine ga_iconst dX1_nextUnevenName_2 ⟨by decide, by decide⟩ ?_
  refine ga_istore_n (lv2 := [_, _, _, _, _, _]) dX1_nextUnevenName_3 (by decide) rfl rfl ?_
  refine (ga_loop 80 (fun i => ∀ (la r : Int) y z, unev (σ.1 3) (σ.1 10) N M (80 - i) la = r → ga_W 1 0 0 0 0 mX1_nextUnevenName (gis (some (Vi r)) σ) ga_nox 4 [some (Vr 1), some (Vi a), some (Vi la), some (Vi (i : Int)), y, z] [] (HP σ)) ?_ ?_ 0 (Nat.zero_le _) a _ _ _ rfl : _)
  · intro la r y z hr
    refine ga_iload_n dX1_nextUnevenName_4 rfl ?_
    refine ga_bipush dX1_nextUnevenName_5 ⟨by decide, by decide⟩ (by decide) ?_
    refine ga_icmp_ge (tgt := 81) dX1_nextUnevenName_7 rfl (fun c_7 => ?_) (fun c_7 => ?_)
    · refine ga_iconst dX1_nextUnevenName_81 ⟨by decide, by decide⟩ ?_
      refine ga_ret (v := some _) ?_ rfl (by decide) (by decide) ⟨dX1_nextUnevenName_82, _, rfl, rfl⟩
      exact ⟨by rw [← hr]; rfl, rfl⟩
    · omega
  · intro i hi k la r y z hr
    rw [show 80 - i = (80 - (i + 1)) + 1 by omega, unev] at hr
    refine ga_iload_n dX1_nextUnevenName_4 rfl ?_
    refine ga_bipush dX1_nextUnevenName_5 ⟨by decide, by decide⟩ (by decide) ?_
    refine ga_icmp_ge (tgt := 81) dX1_nextUnevenName_7 rfl (fun c_7 => ?_) (fun c_7 => ?_)
    · omega
    · refine ga_aload_n dX1_nextUnevenName_10 rfl ?_
      refine hg_getR grX1_12 dX1_nextUnevenName_11 rfl rfl ?_
      refine ga_iload_n dX1_nextUnevenName_14 rfl ?_
      refine hc_V (T_X9_nextPortName_2 la σ N hN hN2) fX9_nextPortName rfl kX9_nextPortName lkX1_42 dX1_nextUnevenName_15 rfl rfl rfl rfl rfl rfl rfl rfl ?_
      refine ga_istore (lv2 := [_, _, _, _, _, _]) dX1_nextUnevenName_18 (by decide) rfl rfl ?_
      refine ga_aload_n dX1_nextUnevenName_20 rfl ?_
      refine hg_getR grX1_18 dX1_nextUnevenName_21 rfl rfl ?_
      refine ga_iload_n dX1_nextUnevenName_24 rfl ?_
      refine hc_V (T_X9_nextPortName_9 la σ M gN gN2) fX9_nextPortName rfl kX9_nextPortName lkX1_42 dX1_nextUnevenName_25 rfl rfl rfl rfl rfl rfl rfl rfl ?_
      refine ga_istore (lv2 := [_, _, _, _, _, _]) dX1_nextUnevenName_28 (by decide) rfl rfl ?_
      refine ga_iload dX1_nextUnevenName_30 rfl ?_
      refine ga_iload dX1_nextUnevenName_32 rfl ?_
      refine ga_icmp_eq (tgt := 64) dX1_nextUnevenName_34 rfl (fun c_34 => ?_) (fun c_34 => ?_)
      · rw [if_neg (fun z => z c_34)] at hr
        refine ga_iload dX1_nextUnevenName_64 rfl ?_
        refine ga_iconst dX1_nextUnevenName_66 ⟨by decide, by decide⟩ ?_
        refine ga_icmp_ne (tgt := 72) dX1_nextUnevenName_67 rfl (fun c_67 => ?_) (fun c_67 => ?_)
        · rw [if_neg c_67] at hr
          refine ga_iload dX1_nextUnevenName_72 rfl ?_
          refine ga_istore_n (lv2 := [_, _, _, _, _, _]) dX1_nextUnevenName_74 (by decide) rfl rfl ?_
          refine ga_iinc (z := ((i + 1 : Nat) : Int)) (lv2 := [_, _, _, _, _, _]) dX1_nextUnevenName_75 (by decide) rfl rfl (by omega) (⟨by omega, by omega⟩) rfl ?_
          refine ga_goto (tgt := 4) dX1_nextUnevenName_78 rfl ?_
          exact k _ r _ _ hr
        · rw [if_pos c_67] at hr
          refine ga_iconst dX1_nextUnevenName_70 ⟨by decide, by decide⟩ ?_
          refine ga_ret (v := some _) ?_ rfl (by decide) (by decide) ⟨dX1_nextUnevenName_71, _, rfl, rfl⟩
          exact ⟨by rw [← hr], rfl⟩
      · rw [if_pos c_34] at hr
        refine ga_iload dX1_nextUnevenName_37 rfl ?_
        refine ga_iconst dX1_nextUnevenName_39 ⟨by decide, by decide⟩ ?_
        refine ga_icmp_eq (tgt := 56) dX1_nextUnevenName_40 rfl (fun c_40 => ?_) (fun c_40 => ?_)
        · rw [if_pos (Or.inl c_40)] at hr
          refine ga_iload dX1_nextUnevenName_56 rfl ?_
          refine ga_goto (tgt := 63) dX1_nextUnevenName_58 rfl ?_
          refine ga_ret (v := some _) ?_ rfl (by decide) (by decide) ⟨dX1_nextUnevenName_63, _, rfl, rfl⟩
          exact ⟨by rw [← hr], rfl⟩
        · refine ga_iload dX1_nextUnevenName_43 rfl ?_
          refine ga_iconst dX1_nextUnevenName_45 ⟨by decide, by decide⟩ ?_
          refine ga_icmp_eq (tgt := 61) dX1_nextUnevenName_46 rfl (fun c_46 => ?_) (fun c_46 => ?_)
          · rw [if_neg (fun z => z.elim c_40 (fun w => w.1 c_46))] at hr
            refine ga_iload dX1_nextUnevenName_61 rfl ?_
            refine ga_ret (v := some _) ?_ rfl (by decide) (by decide) ⟨dX1_nextUnevenName_63, _, rfl, rfl⟩
            exact ⟨by rw [← hr], rfl⟩
          · refine ga_iload dX1_nextUnevenName_49 rfl ?_
            refine ga_iload dX1_nextUnevenName_51 rfl ?_
            refine ga_icmp_ge (tgt := 61) dX1_nextUnevenName_53 rfl (fun c_53 => ?_) (fun c_53 => ?_)
            · rw [if_neg (fun z => z.elim c_40 (fun w => c_53 w.2))] at hr
              refine ga_iload dX1_nextUnevenName_61 rfl ?_
              refine ga_ret (v := some _) ?_ rfl (by decide) (by decide) ⟨dX1_nextUnevenName_63, _, rfl, rfl⟩
              exact ⟨by rw [← hr], rfl⟩
            · rw [if_pos (Or.inr ⟨c_46, by omega⟩)] at hr
              refine ga_iload dX1_nextUnevenName_56 rfl ?_
              refine ga_goto (tgt := 63) dX1_nextUnevenName_58 rfl ?_
              refine ga_ret (v := some _) ?_ rfl (by decide) (by decide) ⟨dX1_nextUnevenName_63, _, rfl, rfl⟩
              exact ⟨by rw [← hr], rfl⟩
/-- the sides have as many devices, used nets, and the same names -/
def muchF (σ : ga_S) (N D M E : Nat) : Prop := sz (fun d => tv (σ.1 7 d = 0)) D = sz (fun d => tv (σ.1 14 d = 0)) E ∧ sz (fun d => tv (σ.1 4 d ≠ 0)) N = sz (fun d => tv (σ.1 11 d ≠ 0)) M ∧ unev (σ.1 3) (σ.1 10) N M 80 (-1) = -1
theorem T_X1_haveAsMuch (σ : ga_S) (N D M E : Nat) (hN : σ.1 2 0 = N) (hN2 : N ≤ 40) (hD : σ.1 2 3 = D) (hD2 : D ≤ 30) (gN : σ.1 9 0 = M) (gN2 : M ≤ 40) (gD : σ.1 9 3 = E) (gD2 : E ≤ 30) : ga_Mt 2 0 0 mX1_haveAsMuch [Vr 1] (HP σ) (gis (some (Vi (tv (muchF σ N D M E)))) σ) ga_nox := by
  refine ga_meth [some (Vr 1)] rfl rfl (by decide +kernel) (Nat.le_of_ble_eq_true rfl) rfl ?_
  refine ga_aload_n dX1_haveAsMuch_0 rfl ?_
  refine hg_getR grX1_12 dX1_haveAsMuch_1 rfl rfl ?_
  refine hc_V (T_X9_presentCount_2 σ D hD hD2) fX9_presentCount rfl kX9_presentCount lkX1_31 dX1_haveAsMuch_4 rfl rfl rfl rfl rfl rfl rfl rfl ?_
  refine ga_aload_n dX1_haveAsMuch_7 rfl ?_
  refine hg_getR grX1_18 dX1_haveAsMuch_8 rfl rfl ?_
  refine hc_V (T_X9_presentCount_9 σ E gD gD2) fX9_presentCount rfl kX9_presentCount lkX1_31 dX1_haveAsMuch_11 rfl rfl rfl rfl rfl rfl rfl rfl ?_
  refine ga_icmp_ne (tgt := 47) dX1_haveAsMuch_14 rfl (fun c_14 => ?_) (fun c_14 => ?_)
  · refine ga_iconst dX1_haveAsMuch_47 ⟨by decide, by decide⟩ ?_
    refine ga_ret (v := some _) ?_ rfl (by decide) (by decide) ⟨dX1_haveAsMuch_48, _, rfl, rfl⟩
    exact ⟨tvf (fun z => c_14 z.1), rfl⟩
  · refine ga_aload_n dX1_haveAsMuch_17 rfl ?_
    refine hg_getR grX1_12 dX1_haveAsMuch_18 rfl rfl ?_
    refine hc_V (T_X9_usedCount_2 σ N hN hN2) fX9_usedCount rfl kX9_usedCount lkX1_35 dX1_haveAsMuch_21 rfl rfl rfl rfl rfl rfl rfl rfl ?_
    refine ga_aload_n dX1_haveAsMuch_24 rfl ?_
    refine hg_getR grX1_18 dX1_haveAsMuch_25 rfl rfl ?_
    refine hc_V (T_X9_usedCount_9 σ M gN gN2) fX9_usedCount rfl kX9_usedCount lkX1_35 dX1_haveAsMuch_28 rfl rfl rfl rfl rfl rfl rfl rfl ?_
    refine ga_icmp_ne (tgt := 47) dX1_haveAsMuch_31 rfl (fun c_31 => ?_) (fun c_31 => ?_)
    · refine ga_iconst dX1_haveAsMuch_47 ⟨by decide, by decide⟩ ?_
      refine ga_ret (v := some _) ?_ rfl (by decide) (by decide) ⟨dX1_haveAsMuch_48, _, rfl, rfl⟩
      exact ⟨tvf (fun z => c_31 z.2.1), rfl⟩
    · refine ga_aload_n dX1_haveAsMuch_34 rfl ?_
      refine ga_iconst dX1_haveAsMuch_35 ⟨by decide, by decide⟩ ?_
      refine hc_V (T_X1_nextUnevenName (-1) σ N M hN hN2 gN gN2) fX1_nextUnevenName rfl kX1_nextUnevenName lkX1_38 dX1_haveAsMuch_36 rfl rfl rfl rfl rfl rfl rfl rfl ?_
      refine ga_iconst dX1_haveAsMuch_39 ⟨by decide, by decide⟩ ?_
      refine ga_icmp_ne (tgt := 47) dX1_haveAsMuch_40 rfl (fun c_40 => ?_) (fun c_40 => ?_)
      · refine ga_iconst dX1_haveAsMuch_47 ⟨by decide, by decide⟩ ?_
        refine ga_ret (v := some _) ?_ rfl (by decide) (by decide) ⟨dX1_haveAsMuch_48, _, rfl, rfl⟩
        exact ⟨tvf (fun z => c_40 z.2.2), rfl⟩
      · refine ga_iconst dX1_haveAsMuch_43 ⟨by decide, by decide⟩ ?_
        refine ga_goto (tgt := 48) dX1_haveAsMuch_44 rfl ?_
        refine ga_ret (v := some _) ?_ rfl (by decide) (by decide) ⟨dX1_haveAsMuch_48, _, rfl, rfl⟩
        exact ⟨tvt ⟨c_14, c_31, c_40⟩, rfl⟩
