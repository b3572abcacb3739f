-- the face
abbrev xI : String := "java/lang/IndexOutOfBoundsException"
abbrev xS : String := "java/lang/IllegalStateException"
abbrev xA : String := "java/lang/IllegalArgumentException"
abbrev sdC (x : Int) : Nat := if x = 0 then 2 else 9
theorem T_X10_sideAt (x : Int) (σ : ga_S) : ga_Mt 6 1 6 mX10_sideAt [Vr 0, Vi x] (HP σ) (fun v h => (x = 0 ∨ x = 1) ∧ v = some (Vr (sdC x)) ∧ h = HP σ) (fun E h => (x < 0 ∨ 1 < x) ∧ E = xI ∧ h = HP σ) := by
  refine ga_meth [some (Vr 0), some (Vi x)] rfl rfl (by decide +kernel) (Nat.le_of_ble_eq_true rfl) rfl ?_
  refine ga_iload_n dX10_sideAt_0 rfl ?_
  refine ga_if_lt (tgt := 9) dX10_sideAt_1 rfl (fun c_1 => ?_) (fun c_1 => ?_)
  · refine ga_throw (text := "no such side") tf_91 (by decide +kernel) rfl dX10_sideAt_9 dX10_sideAt_12 dX10_sideAt_13 dX10_sideAt_15 dX10_sideAt_18 (by decide) (Nat.le_of_ble_eq_true rfl) (by decide) (by decide) ?_
    exact ⟨Or.inl c_1, rfl, rfl⟩
  · refine ga_iload_n dX10_sideAt_4 rfl ?_
    refine ga_iconst dX10_sideAt_5 ⟨by decide, by decide⟩ ?_
    refine ga_icmp_lt (tgt := 19) dX10_sideAt_6 rfl (fun c_6 => ?_) (fun c_6 => ?_)
    · by_cases q : x = 0
      · subst q
        refine ga_aload_n dX10_sideAt_19 rfl ?_
        refine hg_getR grX10_10 dX10_sideAt_20 rfl rfl ?_
        refine ga_iload_n dX10_sideAt_23 rfl ?_
        refine hc_V (T_X1_sideOf0 σ) fX1_sideOf rfl kX1_sideOf lkX10_230 dX10_sideAt_24 rfl rfl rfl rfl rfl rfl rfl rfl ?_
        refine ga_ret (v := some _) ?_ rfl (by decide) (by decide) ⟨dX10_sideAt_27, _, rfl, Or.inl ⟨_, rfl⟩⟩
        exact ⟨Or.inl rfl, rfl, rfl⟩
      · have q2 : x = 1 := by omega
        subst q2
        refine ga_aload_n dX10_sideAt_19 rfl ?_
        refine hg_getR grX10_10 dX10_sideAt_20 rfl rfl ?_
        refine ga_iload_n dX10_sideAt_23 rfl ?_
        refine hc_V (T_X1_sideOf1_1 σ) fX1_sideOf rfl kX1_sideOf lkX10_230 dX10_sideAt_24 rfl rfl rfl rfl rfl rfl rfl rfl ?_
        refine ga_ret (v := some _) ?_ rfl (by decide) (by decide) ⟨dX10_sideAt_27, _, rfl, Or.inl ⟨_, rfl⟩⟩
        exact ⟨Or.inr rfl, rfl, rfl⟩
    · refine ga_throw (text := "no such side") tf_91 (by decide +kernel) rfl dX10_sideAt_9 dX10_sideAt_12 dX10_sideAt_13 dX10_sideAt_15 dX10_sideAt_18 (by decide) (Nat.le_of_ble_eq_true rfl) (by decide) (by decide) ?_
      exact ⟨Or.inr (by omega), rfl, rfl⟩
theorem T_X10_isKind (x : Int) (h : ga_H) : ga_Mt 0 0 0 mX10_isKind [Vi x] h (fun v2 h2 => v2 = some (Vi (tv (0 ≤ x ∧ x < 8))) ∧ h2 = h) ga_nox := by
  refine ga_meth [some (Vi x)] rfl rfl (by decide +kernel) (Nat.le_of_ble_eq_true rfl) rfl ?_
  refine ga_iload_n dX10_isKind_0 rfl ?_
  refine ga_if_lt (tgt := 14) dX10_isKind_1 rfl (fun c_1 => ?_) (fun c_1 => ?_)
  · refine ga_iconst dX10_isKind_14 ⟨by decide, by decide⟩ ?_
    refine ga_ret (v := some _) ?_ rfl (by decide) (by decide) ⟨dX10_isKind_15, _, rfl, rfl⟩
    exact ⟨tvf (fun z => by omega), rfl⟩
  · refine ga_iload_n dX10_isKind_4 rfl ?_
    refine ga_bipush dX10_isKind_5 ⟨by decide, by decide⟩ (by decide) ?_
    refine ga_icmp_ge (tgt := 14) dX10_isKind_7 rfl (fun c_7 => ?_) (fun c_7 => ?_)
    · refine ga_iconst dX10_isKind_14 ⟨by decide, by decide⟩ ?_
      refine ga_ret (v := some _) ?_ rfl (by decide) (by decide) ⟨dX10_isKind_15, _, rfl, rfl⟩
      exact ⟨tvf (fun z => by omega), rfl⟩
    · refine ga_iconst dX10_isKind_10 ⟨by decide, by decide⟩ ?_
      refine ga_goto (tgt := 15) dX10_isKind_11 rfl ?_
      refine ga_ret (v := some _) ?_ rfl (by decide) (by decide) ⟨dX10_isKind_15, _, rfl, rfl⟩
      exact ⟨tvt ⟨by omega, by omega⟩, rfl⟩
theorem T_X10_isPin (x : Int) (h : ga_H) : ga_Mt 0 0 0 mX10_isPin [Vi x] h (fun v2 h2 => v2 = some (Vi (tv (0 ≤ x ∧ x < 4))) ∧ h2 = h) ga_nox := by
  refine ga_meth [some (Vi x)] rfl rfl (by decide +kernel) (Nat.le_of_ble_eq_true rfl) rfl ?_
  refine ga_iload_n dX10_isPin_0 rfl ?_
  refine ga_if_lt (tgt := 13) dX10_isPin_1 rfl (fun c_1 => ?_) (fun c_1 => ?_)
  · refine ga_iconst dX10_isPin_13 ⟨by decide, by decide⟩ ?_
    refine ga_ret (v := some _) ?_ rfl (by decide) (by decide) ⟨dX10_isPin_14, _, rfl, rfl⟩
    exact ⟨tvf (fun z => by omega), rfl⟩
  · refine ga_iload_n dX10_isPin_4 rfl ?_
    refine ga_iconst dX10_isPin_5 ⟨by decide, by decide⟩ ?_
    refine ga_icmp_ge (tgt := 13) dX10_isPin_6 rfl (fun c_6 => ?_) (fun c_6 => ?_)
    · refine ga_iconst dX10_isPin_13 ⟨by decide, by decide⟩ ?_
      refine ga_ret (v := some _) ?_ rfl (by decide) (by decide) ⟨dX10_isPin_14, _, rfl, rfl⟩
      exact ⟨tvf (fun z => by omega), rfl⟩
    · refine ga_iconst dX10_isPin_9 ⟨by decide, by decide⟩ ?_
      refine ga_goto (tgt := 14) dX10_isPin_10 rfl ?_
      refine ga_ret (v := some _) ?_ rfl (by decide) (by decide) ⟨dX10_isPin_14, _, rfl, rfl⟩
      exact ⟨tvt ⟨by omega, by omega⟩, rfl⟩
theorem T_X10_net_2 (y : Int) (σ : ga_S) (h1 : 0 ≤ σ.1 2 0) (h2 : σ.1 2 0 ≤ 40) : ga_Mt 7 2 12 mX10_net [Vr 0, Vi 0, Vi y] (HP σ) (fun v h => (σ.1 2 0 < 40 ∧ 0 ≤ y) ∧ v = some (Vi (σ.1 2 0)) ∧ h = HP (stI σ 2 (ga_up (σ.1 2) 0 (σ.1 2 0 + 1)))) (fun E h => ((E = xS ∧ σ.1 2 0 = 40) ∨ (E = xA ∧ σ.1 2 0 < 40 ∧ y < 0)) ∧ h = HP σ) := by
  refine ga_meth [some (Vr 0), some (Vi 0), some (Vi y), none] rfl rfl (by decide +kernel) (Nat.le_of_ble_eq_true rfl) rfl ?_
  refine ga_aload_n dX10_net_0 rfl ?_
  refine ga_iload_n dX10_net_1 rfl ?_
  refine ga_callVX (T_X10_sideAt 0 σ) fX10_sideAt rfl kX10_sideAt lkX10_58 dX10_net_2 rfl rfl (by decide) (HP_obj rfl) rfl (Nat.le_of_ble_eq_true rfl) (by decide) (by decide) rfl (fun _ _ z => by omega) ?_
  rintro v h ⟨_, e1, e2⟩;rw [e1, e2]
  refine ga_astore_n (lv2 := [_, _, _, _]) dX10_net_5 (by decide) rfl rfl ?_
  refine ga_aload_n dX10_net_6 rfl ?_
  refine hg_getI 0 grX10_62 dX10_net_7 rfl rfl rfl ?_
  refine ga_bipush dX10_net_10 ⟨by decide, by decide⟩ (by decide) ?_
  refine ga_icmp_lt (tgt := 25) dX10_net_12 rfl (fun c_12 => ?_) (fun c_12 => ?_)
  · refine ga_iload_n dX10_net_25 rfl ?_
    refine ga_if_ge (tgt := 39) dX10_net_26 rfl (fun c_26 => ?_) (fun c_26 => ?_)
    · refine ga_aload_n dX10_net_39 rfl ?_
      refine hc_V (T_X9_addNet_2 σ h1 c_12) fX9_addNet rfl kX9_addNet lkX10_79 dX10_net_40 rfl rfl rfl rfl rfl rfl rfl rfl ?_
      refine ga_ret (v := some _) ?_ rfl (by decide) (by decide) ⟨dX10_net_43, _, rfl, rfl⟩
      exact ⟨⟨c_12, by omega⟩, rfl, rfl⟩
    · refine ga_throw (text := "a name below 0") tf_78 (by decide +kernel) rfl dX10_net_29 dX10_net_32 dX10_net_33 dX10_net_35 dX10_net_38 (by decide) (Nat.le_of_ble_eq_true rfl) (by decide) (by decide) ?_
      exact ⟨Or.inr ⟨rfl, c_12, by omega⟩, rfl⟩
  · refine ga_throw (text := "no more nets") tf_71 (by decide +kernel) rfl dX10_net_15 dX10_net_18 dX10_net_19 dX10_net_21 dX10_net_24 (by decide) (Nat.le_of_ble_eq_true rfl) (by decide) (by decide) ?_
    exact ⟨Or.inl ⟨rfl, by omega⟩, rfl⟩
theorem T_X10_net_9 (y : Int) (σ : ga_S) (h1 : 0 ≤ σ.1 9 0) (h2 : σ.1 9 0 ≤ 40) : ga_Mt 7 2 12 mX10_net [Vr 0, Vi 1, Vi y] (HP σ) (fun v h => (σ.1 9 0 < 40 ∧ 0 ≤ y) ∧ v = some (Vi (σ.1 9 0)) ∧ h = HP (stI σ 9 (ga_up (σ.1 9) 0 (σ.1 9 0 + 1)))) (fun E h => ((E = xS ∧ σ.1 9 0 = 40) ∨ (E = xA ∧ σ.1 9 0 < 40 ∧ y < 0)) ∧ h = HP σ) := by
  refine ga_meth [some (Vr 0), some (Vi 1), some (Vi y), none] rfl rfl (by decide +kernel) (Nat.le_of_ble_eq_true rfl) rfl ?_
  refine ga_aload_n dX10_net_0 rfl ?_
  refine ga_iload_n dX10_net_1 rfl ?_
  refine ga_callVX (T_X10_sideAt 1 σ) fX10_sideAt rfl kX10_sideAt lkX10_58 dX10_net_2 rfl rfl (by decide) (HP_obj rfl) rfl (Nat.le_of_ble_eq_true rfl) (by decide) (by decide) rfl (fun _ _ z => by omega) ?_
  rintro v h ⟨_, e1, e2⟩;rw [e1, e2]
  refine ga_astore_n (lv2 := [_, _, _, _]) dX10_net_5 (by decide) rfl rfl ?_
  refine ga_aload_n dX10_net_6 rfl ?_
  refine hg_getI 0 grX10_62 dX10_net_7 rfl rfl rfl ?_
  refine ga_bipush dX10_net_10 ⟨by decide, by decide⟩ (by decide) ?_
  refine ga_icmp_lt (tgt := 25) dX10_net_12 rfl (fun c_12 => ?_) (fun c_12 => ?_)
  · refine ga_iload_n dX10_net_25 rfl ?_
    refine ga_if_ge (tgt := 39) dX10_net_26 rfl (fun c_26 => ?_) (fun c_26 => ?_)
    · refine ga_aload_n dX10_net_39 rfl ?_
      refine hc_V (T_X9_addNet_9 σ h1 c_12) fX9_addNet rfl kX9_addNet lkX10_79 dX10_net_40 rfl rfl rfl rfl rfl rfl rfl rfl ?_
      refine ga_ret (v := some _) ?_ rfl (by decide) (by decide) ⟨dX10_net_43, _, rfl, rfl⟩
      exact ⟨⟨c_12, by omega⟩, rfl, rfl⟩
    · refine ga_throw (text := "a name below 0") tf_78 (by decide +kernel) rfl dX10_net_29 dX10_net_32 dX10_net_33 dX10_net_35 dX10_net_38 (by decide) (Nat.le_of_ble_eq_true rfl) (by decide) (by decide) ?_
      exact ⟨Or.inr ⟨rfl, c_12, by omega⟩, rfl⟩
  · refine ga_throw (text := "no more nets") tf_71 (by decide +kernel) rfl dX10_net_15 dX10_net_18 dX10_net_19 dX10_net_21 dX10_net_24 (by decide) (Nat.le_of_ble_eq_true rfl) (by decide) (by decide) ?_
    exact ⟨Or.inl ⟨rfl, by omega⟩, rfl⟩
