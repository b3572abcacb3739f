-- the face: swap, device, join
theorem T_X10_swap (kd a b : Int) (σ : ga_S) : ga_Mt 6 1 6 mX10_swap [Vr 0, Vi kd, Vi a, Vi b] (HP σ) (fun v2 h => ((0 ≤ kd ∧ kd < 8) ∧ (0 ≤ a ∧ a < 4) ∧ 0 ≤ b ∧ b < 4) ∧ v2 = some (Vi (tv (σ.1 17 (kd * 4 + a) ≠ σ.1 17 (kd * 4 + b)))) ∧ h = HP (unS σ kd a b)) (fun E h => ¬ ((0 ≤ kd ∧ kd < 8) ∧ (0 ≤ a ∧ a < 4) ∧ 0 ≤ b ∧ b < 4) ∧ E = xI ∧ h = HP σ) := by
  refine ga_meth [some (Vr 0), some (Vi kd), some (Vi a), some (Vi b)] rfl rfl (by decide +kernel) (Nat.le_of_ble_eq_true rfl) rfl ?_
  refine ga_iload_n dX10_swap_0 rfl ?_
  refine hc_S (T_X10_isKind kd _) fX10_isKind rfl kX10_isKind lkX10_83 dX10_swap_1 rfl rfl rfl rfl rfl rfl ?_
  refine ga_if_ne (tgt := 17) dX10_swap_4 rfl (fun c_4 => ?_) (fun c_4 => ?_)
  · rw [tv_ne0] at c_4
    refine ga_iload_n dX10_swap_17 rfl ?_
    refine hc_S (T_X10_isPin a _) fX10_isPin rfl kX10_isPin lkX10_114 dX10_swap_18 rfl rfl rfl rfl rfl rfl ?_
    refine ga_if_eq (tgt := 31) dX10_swap_21 rfl (fun c_21 => ?_) (fun c_21 => ?_)
    · rw [tv_eq0] at c_21
      refine ga_throw (text := "no such pin") tf_91 (by decide +kernel) rfl dX10_swap_31 dX10_swap_34 dX10_swap_35 dX10_swap_37 dX10_swap_40 (by decide) (Nat.le_of_ble_eq_true rfl) (by decide) (by decide) ?_
      exact ⟨fun z => c_21 z.2.1, rfl, rfl⟩
    · rw [tv_ne0] at c_21
      refine ga_iload_n dX10_swap_24 rfl ?_
      refine hc_S (T_X10_isPin b _) fX10_isPin rfl kX10_isPin lkX10_114 dX10_swap_25 rfl rfl rfl rfl rfl rfl ?_
      refine ga_if_ne (tgt := 41) dX10_swap_28 rfl (fun c_28 => ?_) (fun c_28 => ?_)
      · rw [tv_ne0] at c_28
        refine ga_aload_n dX10_swap_41 rfl ?_
        refine hg_getR grX10_10 dX10_swap_42 rfl rfl ?_
        refine hg_getR grX10_128 dX10_swap_45 rfl rfl ?_
        refine ga_iload_n dX10_swap_48 rfl ?_
        refine ga_iload_n dX10_swap_49 rfl ?_
        refine ga_iload_n dX10_swap_50 rfl ?_
        refine hc_V (T_X4_uniteGroups kd a b σ c_4.1 c_4.2 c_21.1 c_21.2 c_28.1 c_28.2) fX4_uniteGroups rfl kX4_uniteGroups lkX10_132 dX10_swap_51 rfl rfl rfl rfl rfl rfl rfl rfl ?_
        refine ga_ret (v := some _) ?_ rfl (by decide) (by decide) ⟨dX10_swap_54, _, rfl, tv_nb⟩
        exact ⟨⟨c_4, c_21, c_28⟩, rfl, rfl⟩
      · rw [tv_eq0] at c_28
        refine ga_throw (text := "no such pin") tf_91 (by decide +kernel) rfl dX10_swap_31 dX10_swap_34 dX10_swap_35 dX10_swap_37 dX10_swap_40 (by decide) (Nat.le_of_ble_eq_true rfl) (by decide) (by decide) ?_
        exact ⟨fun z => c_28 z.2.2, rfl, rfl⟩
  · rw [tv_eq0] at c_4
    refine ga_throw (text := "no such kind") tf_91 (by decide +kernel) rfl dX10_swap_7 dX10_swap_10 dX10_swap_11 dX10_swap_13 dX10_swap_16 (by decide) (Nat.le_of_ble_eq_true rfl) (by decide) (by decide) ?_
    exact ⟨fun z => c_4 z.1, rfl, rfl⟩
theorem T_X10_device_2 (kd : Int) (z : UInt64) (σ : ga_S) (h1 : 0 ≤ σ.1 2 3) (h2 : σ.1 2 3 ≤ 30) : ga_Mt 6 1 6 mX10_device [Vr 0, Vi 0, Vi kd, Vd z] (HP σ) (fun v h => ((0 ≤ kd ∧ kd < 8) ∧ σ.1 2 3 < 30 ∧ ¬ dcl z FP.dconst0 ≤ 0 ∧ dcg z 4696837146684686336 ≤ 0) ∧ v = some (Vi (σ.1 2 3)) ∧ h = HP (stI (stD (stI σ 5 (ga_up (σ.1 5) (σ.1 2 3) kd)) 6 (ga_up (σ.2 6) (σ.1 2 3) z)) 2 (ga_up (σ.1 2) 3 (σ.1 2 3 + 1)))) (fun E h => ((¬ (0 ≤ kd ∧ kd < 8) ∧ E = xI) ∨ ((0 ≤ kd ∧ kd < 8) ∧ σ.1 2 3 = 30 ∧ E = xS) ∨ ((0 ≤ kd ∧ kd < 8) ∧ σ.1 2 3 < 30 ∧ ¬ (¬ dcl z FP.dconst0 ≤ 0 ∧ dcg z 4696837146684686336 ≤ 0) ∧ E = xA)) ∧ h = HP σ) := by
  refine ga_meth [some (Vr 0), some (Vi 0), some (Vi kd), some (Vd z), none, none] rfl rfl (by decide +kernel) (Nat.le_of_ble_eq_true rfl) rfl ?_
  refine ga_aload_n dX10_device_0 rfl ?_
  refine ga_iload_n dX10_device_1 rfl ?_
  refine hc_V (T_X10_sideAt_2 σ) fX10_sideAt rfl kX10_sideAt lkX10_58 dX10_device_2 rfl rfl rfl rfl rfl rfl rfl rfl ?_
  refine ga_astore (lv2 := [_, _, _, _, _, _]) dX10_device_5 (by decide) rfl rfl ?_
  refine ga_iload_n dX10_device_7 rfl ?_
  refine hc_S (T_X10_isKind kd _) fX10_isKind rfl kX10_isKind lkX10_83 dX10_device_8 rfl rfl rfl rfl rfl rfl ?_
  refine ga_if_ne (tgt := 24) dX10_device_11 rfl (fun c_11 => ?_) (fun c_11 => ?_)
  · rw [tv_ne0] at c_11
    refine ga_aload dX10_device_24 rfl ?_
    refine hg_getI 3 grX10_92 dX10_device_26 rfl rfl rfl ?_
    refine ga_bipush dX10_device_29 ⟨by decide, by decide⟩ (by decide) ?_
    refine ga_icmp_lt (tgt := 44) dX10_device_31 rfl (fun c_31 => ?_) (fun c_31 => ?_)
    · refine ga_dload_n dX10_device_44 rfl ?_
      refine ga_dconst0 dX10_device_45 ?_
      refine ga_dcmp dX10_device_46 (ga_ofI _).symm (ga_inI32 _) ?_
      refine ga_if_le (tgt := 58) dX10_device_47 rfl (fun c_47 => ?_) (fun c_47 => ?_)
      · refine ga_throw (text := "no such size") tf_78 (by decide +kernel) rfl dX10_device_58 dX10_device_61 dX10_device_62 dX10_device_64 dX10_device_67 (by decide) (Nat.le_of_ble_eq_true rfl) (by decide) (by decide) ?_
        exact ⟨Or.inr (Or.inr ⟨c_11, c_31, fun q => q.1 c_47, rfl⟩), rfl⟩
      · refine ga_dload_n dX10_device_50 rfl ?_
        refine ga_ldc2d dX10_device_51 cnX10_97 ?_
        refine ga_dcmp dX10_device_54 (ga_ofI _).symm (ga_inI32 _) ?_
        refine ga_if_le (tgt := 68) dX10_device_55 rfl (fun c_55 => ?_) (fun c_55 => ?_)
        · refine ga_aload dX10_device_68 rfl ?_
          refine ga_iload_n dX10_device_70 rfl ?_
          refine ga_dload_n dX10_device_71 rfl ?_
          refine hc_V (T_X9_addDevice_2 kd z σ h1 c_31) fX9_addDevice rfl kX9_addDevice lkX10_101 dX10_device_72 rfl rfl rfl rfl rfl rfl rfl rfl ?_
          refine ga_ret (v := some _) ?_ rfl (by decide) (by decide) ⟨dX10_device_75, _, rfl, rfl⟩
          exact ⟨⟨c_11, c_31, c_47, c_55⟩, rfl, rfl⟩
        · refine ga_throw (text := "no such size") tf_78 (by decide +kernel) rfl dX10_device_58 dX10_device_61 dX10_device_62 dX10_device_64 dX10_device_67 (by decide) (Nat.le_of_ble_eq_true rfl) (by decide) (by decide) ?_
          exact ⟨Or.inr (Or.inr ⟨c_11, c_31, fun q => c_55 q.2, rfl⟩), rfl⟩
    · refine ga_throw (text := "no more devices") tf_71 (by decide +kernel) rfl dX10_device_34 dX10_device_37 dX10_device_38 dX10_device_40 dX10_device_43 (by decide) (Nat.le_of_ble_eq_true rfl) (by decide) (by decide) ?_
      exact ⟨Or.inr (Or.inl ⟨c_11, by omega, rfl⟩), rfl⟩
  · rw [tv_eq0] at c_11
    refine ga_throw (text := "no such kind") tf_91 (by decide +kernel) rfl dX10_device_14 dX10_device_17 dX10_device_18 dX10_device_20 dX10_device_23 (by decide) (Nat.le_of_ble_eq_true rfl) (by decide) (by decide) ?_
    exact ⟨Or.inl ⟨c_11, rfl⟩, rfl⟩
theorem T_X10_join_2 (r : Int) (σ σ2 : ga_S) (N D n : Nat) (hr : r = 0 ∨ r = 1) (hs : sok_2 σ N D) (hn : n < 30) (hj : Jn_2 r D n σ σ2) (hD : σ2.1 2 3 = D) : ga_Mt 6 1 6 mX10_join [Vr 0, Vi 0, Vi r] (HP σ) (gis (some (Vi (sz (fun d => tv (σ2.1 7 d = 0)) D))) σ2) ga_nox := by
  refine ga_meth [some (Vr 0), some (Vi 0), some (Vi r), none] rfl rfl (by decide +kernel) (Nat.le_of_ble_eq_true rfl) rfl ?_
  refine ga_aload_n dX10_join_0 rfl ?_
  refine ga_iload_n dX10_join_1 rfl ?_
  refine hc_V (T_X10_sideAt_2 σ) fX10_sideAt rfl kX10_sideAt lkX10_58 dX10_join_2 rfl rfl rfl rfl rfl rfl rfl rfl ?_
  refine ga_astore_n (lv2 := [_, _, _, _]) dX10_join_5 (by decide) rfl rfl ?_
  refine ga_iload_n dX10_join_6 rfl ?_
  refine ga_if_eq (tgt := 25) dX10_join_7 rfl (fun c_7 => ?_) (fun c_7 => ?_)
  · refine ga_aload_n dX10_join_25 rfl ?_
    refine hg_getR grX10_19 dX10_join_26 rfl rfl ?_
    refine ga_aload_n dX10_join_29 rfl ?_
    refine ga_aload_n dX10_join_30 rfl ?_
    refine hg_getR grX10_10 dX10_join_31 rfl rfl ?_
    refine hg_getR grX10_128 dX10_join_34 rfl rfl ?_
    refine ga_iload_n dX10_join_37 rfl ?_
    refine hc_Vv (T_X3_joinAll_2 r σ σ2 N D n hs hn hj) fX3_joinAll rfl kX3_joinAll lkX10_155 dX10_join_38 rfl rfl rfl rfl rfl rfl rfl rfl ?_
    refine ga_aload_n dX10_join_41 rfl ?_
    refine hc_V (T_X9_presentCount_2 σ2 D hD hs.2.2.2.1) fX9_presentCount rfl kX9_presentCount lkX10_159 dX10_join_42 rfl rfl rfl rfl rfl rfl rfl rfl ?_
    refine ga_ret (v := some _) ?_ rfl (by decide) (by decide) ⟨dX10_join_45, _, rfl, rfl⟩
    exact ⟨rfl, rfl⟩
  · refine ga_iload_n dX10_join_10 rfl ?_
    refine ga_iconst dX10_join_11 ⟨by decide, by decide⟩ ?_
    refine ga_icmp_eq (tgt := 25) dX10_join_12 rfl (fun c_12 => ?_) (fun c_12 => ?_)
    · refine ga_aload_n dX10_join_25 rfl ?_
      refine hg_getR grX10_19 dX10_join_26 rfl rfl ?_
      refine ga_aload_n dX10_join_29 rfl ?_
      refine ga_aload_n dX10_join_30 rfl ?_
      refine hg_getR grX10_10 dX10_join_31 rfl rfl ?_
      refine hg_getR grX10_128 dX10_join_34 rfl rfl ?_
      refine ga_iload_n dX10_join_37 rfl ?_
      refine hc_Vv (T_X3_joinAll_2 r σ σ2 N D n hs hn hj) fX3_joinAll rfl kX3_joinAll lkX10_155 dX10_join_38 rfl rfl rfl rfl rfl rfl rfl rfl ?_
      refine ga_aload_n dX10_join_41 rfl ?_
      refine hc_V (T_X9_presentCount_2 σ2 D hD hs.2.2.2.1) fX9_presentCount rfl kX9_presentCount lkX10_159 dX10_join_42 rfl rfl rfl rfl rfl rfl rfl rfl ?_
      refine ga_ret (v := some _) ?_ rfl (by decide) (by decide) ⟨dX10_join_45, _, rfl, rfl⟩
      exact ⟨rfl, rfl⟩
    · omega
theorem T_X10_join_2_X (r : Int) (σ : ga_S) (hr : ¬ (r = 0 ∨ r = 1)) : ga_Mt 6 1 6 mX10_join [Vr 0, Vi 0, Vi r] (HP σ) no_v (thr xA σ) := by
  refine ga_meth [some (Vr 0), some (Vi 0), some (Vi r), none] rfl rfl (by decide +kernel) (Nat.le_of_ble_eq_true rfl) rfl ?_
  refine ga_aload_n dX10_join_0 rfl ?_
  refine ga_iload_n dX10_join_1 rfl ?_
  refine hc_V (T_X10_sideAt_2 σ) fX10_sideAt rfl kX10_sideAt lkX10_58 dX10_join_2 rfl rfl rfl rfl rfl rfl rfl rfl ?_
  refine ga_astore_n (lv2 := [_, _, _, _]) dX10_join_5 (by decide) rfl rfl ?_
  refine ga_iload_n dX10_join_6 rfl ?_
  refine ga_if_eq (tgt := 25) dX10_join_7 rfl (fun c_7 => ?_) (fun c_7 => ?_)
  · exact absurd (Or.inl c_7) hr
  · refine ga_iload_n dX10_join_10 rfl ?_
    refine ga_iconst dX10_join_11 ⟨by decide, by decide⟩ ?_
    refine ga_icmp_eq (tgt := 25) dX10_join_12 rfl (fun c_12 => ?_) (fun c_12 => ?_)
    · exact absurd (Or.inr c_12) hr
    · refine ga_throw (text := "no such rule") tf_78 (by decide +kernel) rfl dX10_join_15 dX10_join_18 dX10_join_19 dX10_join_21 dX10_join_24 (by decide) (Nat.le_of_ble_eq_true rfl) (by decide) (by decide) ?_
      exact ⟨rfl, rfl⟩
theorem T_X10_device_9 (kd : Int) (z : UInt64) (σ : ga_S) (h1 : 0 ≤ σ.1 9 3) (h2 : σ.1 9 3 ≤ 30) : ga_Mt 6 1 6 mX10_device [Vr 0, Vi 1, Vi kd, Vd z] (HP σ) (fun v h => ((0 ≤ kd ∧ kd < 8) ∧ σ.1 9 3 < 30 ∧ ¬ dcl z FP.dconst0 ≤ 0 ∧ dcg z 4696837146684686336 ≤ 0) ∧ v = some (Vi (σ.1 9 3)) ∧ h = HP (stI (stD (stI σ 12 (ga_up (σ.1 12) (σ.1 9 3) kd)) 13 (ga_up (σ.2 13) (σ.1 9 3) z)) 9 (ga_up (σ.1 9) 3 (σ.1 9 3 + 1)))) (fun E h => ((¬ (0 ≤ kd ∧ kd < 8) ∧ E = xI) ∨ ((0 ≤ kd ∧ kd < 8) ∧ σ.1 9 3 = 30 ∧ E = xS) ∨ ((0 ≤ kd ∧ kd < 8) ∧ σ.1 9 3 < 30 ∧ ¬ (¬ dcl z FP.dconst0 ≤ 0 ∧ dcg z 4696837146684686336 ≤ 0) ∧ E = xA)) ∧ h = HP σ) := by
  refine ga_meth [some (Vr 0), some (Vi 1), some (Vi kd), some (Vd z), none, none] rfl rfl (by decide +kernel) (Nat.le_of_ble_eq_true rfl) rfl ?_
  refine ga_aload_n dX10_device_0 rfl ?_
  refine ga_iload_n dX10_device_1 rfl ?_
  refine hc_V (T_X10_sideAt_9 σ) fX10_sideAt rfl kX10_sideAt lkX10_58 dX10_device_2 rfl rfl rfl rfl rfl rfl rfl rfl ?_
  refine ga_astore (lv2 := [_, _, _, _, _, _]) dX10_device_5 (by decide) rfl rfl ?_
  refine ga_iload_n dX10_device_7 rfl ?_
  refine hc_S (T_X10_isKind kd _) fX10_isKind rfl kX10_isKind lkX10_83 dX10_device_8 rfl rfl rfl rfl rfl rfl ?_
  refine ga_if_ne (tgt := 24) dX10_device_11 rfl (fun c_11 => ?_) (fun c_11 => ?_)
  · rw [tv_ne0] at c_11
    refine ga_aload dX10_device_24 rfl ?_
    refine hg_getI 3 grX10_92 dX10_device_26 rfl rfl rfl ?_
    refine ga_bipush dX10_device_29 ⟨by decide, by decide⟩ (by decide) ?_
    refine ga_icmp_lt (tgt := 44) dX10_device_31 rfl (fun c_31 => ?_) (fun c_31 => ?_)
    · refine ga_dload_n dX10_device_44 rfl ?_
      refine ga_dconst0 dX10_device_45 ?_
      refine ga_dcmp dX10_device_46 (ga_ofI _).symm (ga_inI32 _) ?_
      refine ga_if_le (tgt := 58) dX10_device_47 rfl (fun c_47 => ?_) (fun c_47 => ?_)
      · refine ga_throw (text := "no such size") tf_78 (by decide +kernel) rfl dX10_device_58 dX10_device_61 dX10_device_62 dX10_device_64 dX10_device_67 (by decide) (Nat.le_of_ble_eq_true rfl) (by decide) (by decide) ?_
        exact ⟨Or.inr (Or.inr ⟨c_11, c_31, fun q => q.1 c_47, rfl⟩), rfl⟩
      · refine ga_dload_n dX10_device_50 rfl ?_
        refine ga_ldc2d dX10_device_51 cnX10_97 ?_
        refine ga_dcmp dX10_device_54 (ga_ofI _).symm (ga_inI32 _) ?_
        refine ga_if_le (tgt := 68) dX10_device_55 rfl (fun c_55 => ?_) (fun c_55 => ?_)
        · refine ga_aload dX10_device_68 rfl ?_
          refine ga_iload_n dX10_device_70 rfl ?_
          refine ga_dload_n dX10_device_71 rfl ?_
          refine hc_V (T_X9_addDevice_9 kd z σ h1 c_31) fX9_addDevice rfl kX9_addDevice lkX10_101 dX10_device_72 rfl rfl rfl rfl rfl rfl rfl rfl ?_
          refine ga_ret (v := some _) ?_ rfl (by decide) (by decide) ⟨dX10_device_75, _, rfl, rfl⟩
          exact ⟨⟨c_11, c_31, c_47, c_55⟩, rfl, rfl⟩
        · refine ga_throw (text := "no such size") tf_78 (by decide +kernel) rfl dX10_device_58 dX10_device_61 dX10_device_62 dX10_device_64 dX10_device_67 (by decide) (Nat.le_of_ble_eq_true rfl) (by decide) (by decide) ?_
          exact ⟨Or.inr (Or.inr ⟨c_11, c_31, fun q => c_55 q.2, rfl⟩), rfl⟩
    · refine ga_throw (text := "no more devices") tf_71 (by decide +kernel) rfl dX10_device_34 dX10_device_37 dX10_device_38 dX10_device_40 dX10_device_43 (by decide) (Nat.le_of_ble_eq_true rfl) (by decide) (by decide) ?_
      exact ⟨Or.inr (Or.inl ⟨c_11, by omega, rfl⟩), rfl⟩
  · rw [tv_eq0] at c_11
    refine ga_throw (text := "no such kind") tf_91 (by decide +kernel) rfl dX10_device_14 dX10_device_17 dX10_device_18 dX10_device_20 dX10_device_23 (by decide) (Nat.le_of_ble_eq_true rfl) (by decide) (by decide) ?_
    exact ⟨Or.inl ⟨c_11, rfl⟩, rfl⟩
theorem T_X10_join_9 (r : Int) (σ σ2 : ga_S) (N D n : Nat) (hr : r = 0 ∨ r = 1) (hs : sok_9 σ N D) (hn : n < 30) (hj : Jn_9 r D n σ σ2) (hD : σ2.1 9 3 = D) : ga_Mt 6 1 6 mX10_join [Vr 0, Vi 1, Vi r] (HP σ) (gis (some (Vi (sz (fun d => tv (σ2.1 14 d = 0)) D))) σ2) ga_nox := by
  refine ga_meth [some (Vr 0), some (Vi 1), some (Vi r), none] rfl rfl (by decide +kernel) (Nat.le_of_ble_eq_true rfl) rfl ?_
  refine ga_aload_n dX10_join_0 rfl ?_
  refine ga_iload_n dX10_join_1 rfl ?_
  refine hc_V (T_X10_sideAt_9 σ) fX10_sideAt rfl kX10_sideAt lkX10_58 dX10_join_2 rfl rfl rfl rfl rfl rfl rfl rfl ?_
  refine ga_astore_n (lv2 := [_, _, _, _]) dX10_join_5 (by decide) rfl rfl ?_
  refine ga_iload_n dX10_join_6 rfl ?_
  refine ga_if_eq (tgt := 25) dX10_join_7 rfl (fun c_7 => ?_) (fun c_7 => ?_)
  · refine ga_aload_n dX10_join_25 rfl ?_
    refine hg_getR grX10_19 dX10_join_26 rfl rfl ?_
    refine ga_aload_n dX10_join_29 rfl ?_
    refine ga_aload_n dX10_join_30 rfl ?_
    refine hg_getR grX10_10 dX10_join_31 rfl rfl ?_
    refine hg_getR grX10_128 dX10_join_34 rfl rfl ?_
    refine ga_iload_n dX10_join_37 rfl ?_
    refine hc_Vv (T_X3_joinAll_9 r σ σ2 N D n hs hn hj) fX3_joinAll rfl kX3_joinAll lkX10_155 dX10_join_38 rfl rfl rfl rfl rfl rfl rfl rfl ?_
    refine ga_aload_n dX10_join_41 rfl ?_
    refine hc_V (T_X9_presentCount_9 σ2 D hD hs.2.2.2.1) fX9_presentCount rfl kX9_presentCount lkX10_159 dX10_join_42 rfl rfl rfl rfl rfl rfl rfl rfl ?_
    refine ga_ret (v := some _) ?_ rfl (by decide) (by decide) ⟨dX10_join_45, _, rfl, rfl⟩
    exact ⟨rfl, rfl⟩
  · refine ga_iload_n dX10_join_10 rfl ?_
    refine ga_iconst dX10_join_11 ⟨by decide, by decide⟩ ?_
    refine ga_icmp_eq (tgt := 25) dX10_join_12 rfl (fun c_12 => ?_) (fun c_12 => ?_)
    · refine ga_aload_n dX10_join_25 rfl ?_
      refine hg_getR grX10_19 dX10_join_26 rfl rfl ?_
      refine ga_aload_n dX10_join_29 rfl ?_
      refine ga_aload_n dX10_join_30 rfl ?_
      refine hg_getR grX10_10 dX10_join_31 rfl rfl ?_
      refine hg_getR grX10_128 dX10_join_34 rfl rfl ?_
      refine ga_iload_n dX10_join_37 rfl ?_
      refine hc_Vv (T_X3_joinAll_9 r σ σ2 N D n hs hn hj) fX3_joinAll rfl kX3_joinAll lkX10_155 dX10_join_38 rfl rfl rfl rfl rfl rfl rfl rfl ?_
      refine ga_aload_n dX10_join_41 rfl ?_
      refine hc_V (T_X9_presentCount_9 σ2 D hD hs.2.2.2.1) fX9_presentCount rfl kX9_presentCount lkX10_159 dX10_join_42 rfl rfl rfl rfl rfl rfl rfl rfl ?_
      refine ga_ret (v := some _) ?_ rfl (by decide) (by decide) ⟨dX10_join_45, _, rfl, rfl⟩
      exact ⟨rfl, rfl⟩
    · omega
theorem T_X10_join_9_X (r : Int) (σ : ga_S) (hr : ¬ (r = 0 ∨ r = 1)) : ga_Mt 6 1 6 mX10_join [Vr 0, Vi 1, Vi r] (HP σ) no_v (thr xA σ) := by
  refine ga_meth [some (Vr 0), some (Vi 1), some (Vi r), none] rfl rfl (by decide +kernel) (Nat.le_of_ble_eq_true rfl) rfl ?_
  refine ga_aload_n dX10_join_0 rfl ?_
  refine ga_iload_n dX10_join_1 rfl ?_
  refine hc_V (T_X10_sideAt_9 σ) fX10_sideAt rfl kX10_sideAt lkX10_58 dX10_join_2 rfl rfl rfl rfl rfl rfl rfl rfl ?_
  refine ga_astore_n (lv2 := [_, _, _, _]) dX10_join_5 (by decide) rfl rfl ?_
  refine ga_iload_n dX10_join_6 rfl ?_
  refine ga_if_eq (tgt := 25) dX10_join_7 rfl (fun c_7 => ?_) (fun c_7 => ?_)
  · exact absurd (Or.inl c_7) hr
  · refine ga_iload_n dX10_join_10 rfl ?_
    refine ga_iconst dX10_join_11 ⟨by decide, by decide⟩ ?_
    refine ga_icmp_eq (tgt := 25) dX10_join_12 rfl (fun c_12 => ?_) (fun c_12 => ?_)
    · exact absurd (Or.inr c_12) hr
    · refine ga_throw (text := "no such rule") tf_78 (by decide +kernel) rfl dX10_join_15 dX10_join_18 dX10_join_19 dX10_join_21 dX10_join_24 (by decide) (Nat.le_of_ble_eq_true rfl) (by decide) (by decide) ?_
      exact ⟨rfl, rfl⟩
