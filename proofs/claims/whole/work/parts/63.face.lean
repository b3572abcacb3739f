-- the face
abbrev xI : String := "java/lang/IndexOutOfBoundsException"
abbrev xS : String := "java/lang/IllegalStateException"
abbrev xA : String := "java/lang/IllegalArgumentException"
theorem T_X10_sideAt_2 (σ : ga_S) : ga_Mt 1 0 0 mX10_sideAt [Vr 0, Vi 0] (HP σ) (gis (some (Vr 2)) σ) ga_nox := by
  refine ga_meth [some (Vr 0), some (Vi 0)] rfl rfl (by decide +kernel) (Nat.le_of_ble_eq_true rfl) rfl ?_
  refine ga_iload_n dX10_sideAt_0 rfl ?_
  refine ga_if_lt (tgt := 9) dX10_sideAt_1 rfl (fun c_1 => ?_) (fun c_1 => ?_)
  · omega
  · refine ga_iload_n dX10_sideAt_4 rfl ?_
    refine ga_iconst dX10_sideAt_5 ⟨by decide, by decide⟩ ?_
    refine ga_icmp_lt (tgt := 19) dX10_sideAt_6 rfl (fun c_6 => ?_) (fun c_6 => ?_)
    · refine ga_aload_n dX10_sideAt_19 rfl ?_
      refine hg_getR grX10_10 dX10_sideAt_20 rfl rfl ?_
      refine ga_iload_n dX10_sideAt_23 rfl ?_
      refine hc_V (T_X1_sideOf0 σ) fX1_sideOf rfl kX1_sideOf lkX10_230 dX10_sideAt_24 rfl rfl rfl rfl rfl rfl rfl rfl ?_
      refine ga_ret (v := some _) ?_ rfl (by decide) (by decide) ⟨dX10_sideAt_27, _, rfl, Or.inl ⟨_, rfl⟩⟩
      exact ⟨rfl, rfl⟩
    · omega
theorem T_X10_sideAt_9 (σ : ga_S) : ga_Mt 1 0 0 mX10_sideAt [Vr 0, Vi 1] (HP σ) (gis (some (Vr 9)) σ) ga_nox := by
  refine ga_meth [some (Vr 0), some (Vi 1)] rfl rfl (by decide +kernel) (Nat.le_of_ble_eq_true rfl) rfl ?_
  refine ga_iload_n dX10_sideAt_0 rfl ?_
  refine ga_if_lt (tgt := 9) dX10_sideAt_1 rfl (fun c_1 => ?_) (fun c_1 => ?_)
  · omega
  · refine ga_iload_n dX10_sideAt_4 rfl ?_
    refine ga_iconst dX10_sideAt_5 ⟨by decide, by decide⟩ ?_
    refine ga_icmp_lt (tgt := 19) dX10_sideAt_6 rfl (fun c_6 => ?_) (fun c_6 => ?_)
    · refine ga_aload_n dX10_sideAt_19 rfl ?_
      refine hg_getR grX10_10 dX10_sideAt_20 rfl rfl ?_
      refine ga_iload_n dX10_sideAt_23 rfl ?_
      refine hc_V (T_X1_sideOf1_1 σ) fX1_sideOf rfl kX1_sideOf lkX10_230 dX10_sideAt_24 rfl rfl rfl rfl rfl rfl rfl rfl ?_
      refine ga_ret (v := some _) ?_ rfl (by decide) (by decide) ⟨dX10_sideAt_27, _, rfl, Or.inl ⟨_, rfl⟩⟩
      exact ⟨rfl, rfl⟩
    · omega
/-- no answer; a throw of E -/
abbrev no_v : ga_Po := fun _ _ => False
abbrev thr (E : String) (σ : ga_S) : ga_Px := fun E2 h => E2 = E ∧ h = HP σ
theorem T_X10_sideAt_X (x : Int) (σ : ga_S) (hx : x < 0 ∨ 1 < x) : ga_Mt 6 1 6 mX10_sideAt [Vr 0, Vi x] (HP σ) no_v (thr xI σ) := by
  refine ga_meth [some (Vr 0), some (Vi x)] rfl rfl (by decide +kernel) (Nat.le_of_ble_eq_true rfl) rfl ?_
  refine ga_iload_n dX10_sideAt_0 rfl ?_
  refine ga_if_lt (tgt := 9) dX10_sideAt_1 rfl (fun c_1 => ?_) (fun c_1 => ?_)
  · refine ga_throw (text := "no such side") tf_91 (by decide +kernel) rfl dX10_sideAt_9 dX10_sideAt_12 dX10_sideAt_13 dX10_sideAt_15 dX10_sideAt_18 (by decide) (Nat.le_of_ble_eq_true rfl) (by decide) (by decide) ?_
    exact ⟨rfl, rfl⟩
  · refine ga_iload_n dX10_sideAt_4 rfl ?_
    refine ga_iconst dX10_sideAt_5 ⟨by decide, by decide⟩ ?_
    refine ga_icmp_lt (tgt := 19) dX10_sideAt_6 rfl (fun c_6 => ?_) (fun c_6 => ?_)
    · omega
    · refine ga_throw (text := "no such side") tf_91 (by decide +kernel) rfl dX10_sideAt_9 dX10_sideAt_12 dX10_sideAt_13 dX10_sideAt_15 dX10_sideAt_18 (by decide) (Nat.le_of_ble_eq_true rfl) (by decide) (by decide) ?_
      exact ⟨rfl, rfl⟩
theorem T_X10_isKind (x : Int) (h : ga_H) : ga_Mt 0 0 0 mX10_isKind [Vi x] h (fun v2 h2 => v2 = some (Vi (tv (0 ≤ x ∧ x < 8))) ∧ h2 = h) ga_nox := by
  refine ga_meth [some (Vi x)] rfl rfl (by decide +kernel) (Nat.le_of_ble_eq_true rfl) rfl ?_
  refine ga_iload_n dX10_isKind_0 rfl ?_
  refine ga_if_lt (tgt := 14) dX10_isKind_1 rfl (fun c_1 => ?_) (fun c_1 => ?_)
  · refine ga_iconst dX10_isKind_14 ⟨by decide, by decide⟩ ?_
    refine ga_ret (v := some _) ?_ rfl (by decide) (by decide) ⟨dX10_isKind_15, _, rfl, rfl⟩
    exact ⟨tvf (fun z => by omega), rfl⟩
  · refine ga_iload_n dX10_isKind_4 rfl ?_
    refine ga_bipush dX10_isKind_5 ⟨by decide, by decide⟩ (by decide) ?_
    refine ga_icmp_ge (tgt := 14) dX10_isKind_7 rfl (fun c_7 => ?_) (fun c_7 => ?_)
    · refine ga_iconst dX10_isKind_14 ⟨by decide, by decide⟩ ?_
      refine ga_ret (v := some _) ?_ rfl (by decide) (by decide) ⟨dX10_isKind_15, _, rfl, rfl⟩
      exact ⟨tvf (fun z => by omega), rfl⟩
    · refine ga_iconst dX10_isKind_10 ⟨by decide, by decide⟩ ?_
      refine ga_goto (tgt := 15) dX10_isKind_11 rfl ?_
      refine ga_ret (v := some _) ?_ rfl (by decide) (by decide) ⟨dX10_isKind_15, _, rfl, rfl⟩
      exact ⟨tvt ⟨by omega, by omega⟩, rfl⟩
theorem T_X10_isPin (x : Int) (h : ga_H) : ga_Mt 0 0 0 mX10_isPin [Vi x] h (fun v2 h2 => v2 = some (Vi (tv (0 ≤ x ∧ x < 4))) ∧ h2 = h) ga_nox := by
  refine ga_meth [some (Vi x)] rfl rfl (by decide +kernel) (Nat.le_of_ble_eq_true rfl) rfl ?_
  refine ga_iload_n dX10_isPin_0 rfl ?_
  refine ga_if_lt (tgt := 13) dX10_isPin_1 rfl (fun c_1 => ?_) (fun c_1 => ?_)
  · refine ga_iconst dX10_isPin_13 ⟨by decide, by decide⟩ ?_
    refine ga_ret (v := some _) ?_ rfl (by decide) (by decide) ⟨dX10_isPin_14, _, rfl, rfl⟩
    exact ⟨tvf (fun z => by omega), rfl⟩
  · refine ga_iload_n dX10_isPin_4 rfl ?_
    refine ga_iconst dX10_isPin_5 ⟨by decide, by decide⟩ ?_
    refine ga_icmp_ge (tgt := 13) dX10_isPin_6 rfl (fun c_6 => ?_) (fun c_6 => ?_)
    · refine ga_iconst dX10_isPin_13 ⟨by decide, by decide⟩ ?_
      refine ga_ret (v := some _) ?_ rfl (by decide) (by decide) ⟨dX10_isPin_14, _, rfl, rfl⟩
      exact ⟨tvf (fun z => by omega), rfl⟩
    · refine ga_iconst dX10_isPin_9 ⟨by decide, by decide⟩ ?_
      refine ga_goto (tgt := 14) dX10_isPin_10 rfl ?_
      refine ga_ret (v := some _) ?_ rfl (by decide) (by decide) ⟨dX10_isPin_14, _, rfl, rfl⟩
      exact ⟨tvt ⟨by omega, by omega⟩, rfl⟩
theorem T_X10_net_X (x y : Int) (σ : ga_S) (hx : x < 0 ∨ 1 < x) : ga_Mt 7 1 6 mX10_net [Vr 0, Vi x, Vi y] (HP σ) no_v (thr xI σ) := by
  refine ga_meth [some (Vr 0), some (Vi x), some (Vi y), none] rfl rfl (by decide +kernel) (Nat.le_of_ble_eq_true rfl) rfl ?_
  refine ga_aload_n dX10_net_0 rfl ?_
  refine ga_iload_n dX10_net_1 rfl ?_
  refine ga_callVX (T_X10_sideAt_X x σ hx) fX10_sideAt rfl kX10_sideAt lkX10_58 dX10_net_2 rfl rfl (by decide) (HP_obj rfl) rfl (Nat.le_of_ble_eq_true rfl) (by decide) (by decide) rfl (fun _ _ z => z) ?_
  rintro v h z
  exact z.elim
theorem T_X10_device_X (x y : Int) (d : UInt64) (σ : ga_S) (hx : x < 0 ∨ 1 < x) : ga_Mt 7 1 6 mX10_device [Vr 0, Vi x, Vi y, Vd d] (HP σ) no_v (thr xI σ) := by
  refine ga_meth [some (Vr 0), some (Vi x), some (Vi y), some (Vd d), none, none] rfl rfl (by decide +kernel) (Nat.le_of_ble_eq_true rfl) rfl ?_
  refine ga_aload_n dX10_device_0 rfl ?_
  refine ga_iload_n dX10_device_1 rfl ?_
  refine ga_callVX (T_X10_sideAt_X x σ hx) fX10_sideAt rfl kX10_sideAt lkX10_58 dX10_device_2 rfl rfl (by decide) (HP_obj rfl) rfl (Nat.le_of_ble_eq_true rfl) (by decide) (by decide) rfl (fun _ _ z => z) ?_
  rintro v h z
  exact z.elim
theorem T_X10_pin_X (x y k n : Int) (σ : ga_S) (hx : x < 0 ∨ 1 < x) : ga_Mt 7 1 6 mX10_pin [Vr 0, Vi x, Vi y, Vi k, Vi n] (HP σ) no_v (thr xI σ) := by
  refine ga_meth [some (Vr 0), some (Vi x), some (Vi y), some (Vi k), some (Vi n), none] rfl rfl (by decide +kernel) (Nat.le_of_ble_eq_true rfl) rfl ?_
  refine ga_aload_n dX10_pin_0 rfl ?_
  refine ga_iload_n dX10_pin_1 rfl ?_
  refine ga_callVX (T_X10_sideAt_X x σ hx) fX10_sideAt rfl kX10_sideAt lkX10_58 dX10_pin_2 rfl rfl (by decide) (HP_obj rfl) rfl (Nat.le_of_ble_eq_true rfl) (by decide) (by decide) rfl (fun _ _ z => z) ?_
  rintro v h z
  exact z.elim
theorem T_X10_port_X (x y k : Int) (σ : ga_S) (hx : x < 0 ∨ 1 < x) : ga_Mt 7 1 6 mX10_port [Vr 0, Vi x, Vi y, Vi k] (HP σ) no_v (thr xI σ) := by
  refine ga_meth [some (Vr 0), some (Vi x), some (Vi y), some (Vi k), none, none] rfl rfl (by decide +kernel) (Nat.le_of_ble_eq_true rfl) rfl ?_
  refine ga_aload_n dX10_port_0 rfl ?_
  refine ga_iload_n dX10_port_1 rfl ?_
  refine ga_callVX (T_X10_sideAt_X x σ hx) fX10_sideAt rfl kX10_sideAt lkX10_58 dX10_port_2 rfl rfl (by decide) (HP_obj rfl) rfl (Nat.le_of_ble_eq_true rfl) (by decide) (by decide) rfl (fun _ _ z => z) ?_
  rintro v h z
  exact z.elim
theorem T_X10_join_X (x y : Int) (σ : ga_S) (hx : x < 0 ∨ 1 < x) : ga_Mt 7 1 6 mX10_join [Vr 0, Vi x, Vi y] (HP σ) no_v (thr xI σ) := by
  refine ga_meth [some (Vr 0), some (Vi x), some (Vi y), none] rfl rfl (by decide +kernel) (Nat.le_of_ble_eq_true rfl) rfl ?_
  refine ga_aload_n dX10_join_0 rfl ?_
  refine ga_iload_n dX10_join_1 rfl ?_
  refine ga_callVX (T_X10_sideAt_X x σ hx) fX10_sideAt rfl kX10_sideAt lkX10_58 dX10_join_2 rfl rfl (by decide) (HP_obj rfl) rfl (Nat.le_of_ble_eq_true rfl) (by decide) (by decide) rfl (fun _ _ z => z) ?_
  rintro v h z
  exact z.elim
theorem T_X10_match_X (x y : Int) (σ : ga_S) (hx : x < 0 ∨ 1 < x) : ga_Mt 7 1 6 mX10_match [Vr 0, Vi x, Vi y] (HP σ) no_v (thr xI σ) := by
  refine ga_meth [some (Vr 0), some (Vi x), some (Vi y), none] rfl rfl (by decide +kernel) (Nat.le_of_ble_eq_true rfl) rfl ?_
  refine ga_aload_n dX10_match_0 rfl ?_
  refine ga_iload_n dX10_match_1 rfl ?_
  refine ga_callVX (T_X10_sideAt_X x σ hx) fX10_sideAt rfl kX10_sideAt lkX10_58 dX10_match_2 rfl rfl (by decide) (HP_obj rfl) rfl (Nat.le_of_ble_eq_true rfl) (by decide) (by decide) rfl (fun _ _ z => z) ?_
  rintro v h z
  exact z.elim
theorem T_X10_net_2 (y : Int) (σ : ga_S) (h1 : 0 ≤ σ.1 2 0) (h2 : σ.1 2 0 ≤ 40) : ga_Mt 6 1 6 mX10_net [Vr 0, Vi 0, Vi y] (HP σ) (fun v h => (σ.1 2 0 < 40 ∧ 0 ≤ y) ∧ v = some (Vi (σ.1 2 0)) ∧ h = HP (stI σ 2 (ga_up (σ.1 2) 0 (σ.1 2 0 + 1)))) (fun E h => ((E = xS ∧ σ.1 2 0 = 40) ∨ (E = xA ∧ σ.1 2 0 < 40 ∧ y < 0)) ∧ h = HP σ) := by
  refine ga_meth [some (Vr 0), some (Vi 0), some (Vi y), none] rfl rfl (by decide +kernel) (Nat.le_of_ble_eq_true rfl) rfl ?_
  refine ga_aload_n dX10_net_0 rfl ?_
  refine ga_iload_n dX10_net_1 rfl ?_
  refine hc_V (T_X10_sideAt_2 σ) fX10_sideAt rfl kX10_sideAt lkX10_58 dX10_net_2 rfl rfl rfl rfl rfl rfl rfl rfl ?_
  refine ga_astore_n (lv2 := [_, _, _, _]) dX10_net_5 (by decide) rfl rfl ?_
  refine ga_aload_n dX10_net_6 rfl ?_
  refine hg_getI 0 grX10_62 dX10_net_7 rfl rfl rfl ?_
  refine ga_bipush dX10_net_10 ⟨by decide, by decide⟩ (by decide) ?_
  refine ga_icmp_lt (tgt := 25) dX10_net_12 rfl (fun c_12 => ?_) (fun c_12 => ?_)
  · refine ga_iload_n dX10_net_25 rfl ?_
    refine ga_if_ge (tgt := 39) dX10_net_26 rfl (fun c_26 => ?_) (fun c_26 => ?_)
    · refine ga_aload_n dX10_net_39 rfl ?_
      refine hc_V (T_X9_addNet_2 σ h1 c_12) fX9_addNet rfl kX9_addNet lkX10_79 dX10_net_40 rfl rfl rfl rfl rfl rfl rfl rfl ?_
      refine ga_ret (v := some _) ?_ rfl (by decide) (by decide) ⟨dX10_net_43, _, rfl, rfl⟩
      exact ⟨⟨c_12, by omega⟩, rfl, rfl⟩
    · refine ga_throw (text := "a name below 0") tf_78 (by decide +kernel) rfl dX10_net_29 dX10_net_32 dX10_net_33 dX10_net_35 dX10_net_38 (by decide) (Nat.le_of_ble_eq_true rfl) (by decide) (by decide) ?_
      exact ⟨Or.inr ⟨rfl, c_12, by omega⟩, rfl⟩
  · refine ga_throw (text := "no more nets") tf_71 (by decide +kernel) rfl dX10_net_15 dX10_net_18 dX10_net_19 dX10_net_21 dX10_net_24 (by decide) (Nat.le_of_ble_eq_true rfl) (by decide) (by decide) ?_
    exact ⟨Or.inl ⟨rfl, by omega⟩, rfl⟩
theorem T_X10_net_9 (y : Int) (σ : ga_S) (h1 : 0 ≤ σ.1 9 0) (h2 : σ.1 9 0 ≤ 40) : ga_Mt 6 1 6 mX10_net [Vr 0, Vi 1, Vi y] (HP σ) (fun v h => (σ.1 9 0 < 40 ∧ 0 ≤ y) ∧ v = some (Vi (σ.1 9 0)) ∧ h = HP (stI σ 9 (ga_up (σ.1 9) 0 (σ.1 9 0 + 1)))) (fun E h => ((E = xS ∧ σ.1 9 0 = 40) ∨ (E = xA ∧ σ.1 9 0 < 40 ∧ y < 0)) ∧ h = HP σ) := by
  refine ga_meth [some (Vr 0), some (Vi 1), some (Vi y), none] rfl rfl (by decide +kernel) (Nat.le_of_ble_eq_true rfl) rfl ?_
  refine ga_aload_n dX10_net_0 rfl ?_
  refine ga_iload_n dX10_net_1 rfl ?_
  refine hc_V (T_X10_sideAt_9 σ) fX10_sideAt rfl kX10_sideAt lkX10_58 dX10_net_2 rfl rfl rfl rfl rfl rfl rfl rfl ?_
  refine ga_astore_n (lv2 := [_, _, _, _]) dX10_net_5 (by decide) rfl rfl ?_
  refine ga_aload_n dX10_net_6 rfl ?_
  refine hg_getI 0 grX10_62 dX10_net_7 rfl rfl rfl ?_
  refine ga_bipush dX10_net_10 ⟨by decide, by decide⟩ (by decide) ?_
  refine ga_icmp_lt (tgt := 25) dX10_net_12 rfl (fun c_12 => ?_) (fun c_12 => ?_)
  · refine ga_iload_n dX10_net_25 rfl ?_
    refine ga_if_ge (tgt := 39) dX10_net_26 rfl (fun c_26 => ?_) (fun c_26 => ?_)
    · refine ga_aload_n dX10_net_39 rfl ?_
      refine hc_V (T_X9_addNet_9 σ h1 c_12) fX9_addNet rfl kX9_addNet lkX10_79 dX10_net_40 rfl rfl rfl rfl rfl rfl rfl rfl ?_
      refine ga_ret (v := some _) ?_ rfl (by decide) (by decide) ⟨dX10_net_43, _, rfl, rfl⟩
      exact ⟨⟨c_12, by omega⟩, rfl, rfl⟩
    · refine ga_throw (text := "a name below 0") tf_78 (by decide +kernel) rfl dX10_net_29 dX10_net_32 dX10_net_33 dX10_net_35 dX10_net_38 (by decide) (Nat.le_of_ble_eq_true rfl) (by decide) (by decide) ?_
      exact ⟨Or.inr ⟨rfl, c_12, by omega⟩, rfl⟩
  · refine ga_throw (text := "no more nets") tf_71 (by decide +kernel) rfl dX10_net_15 dX10_net_18 dX10_net_19 dX10_net_21 dX10_net_24 (by decide) (Nat.le_of_ble_eq_true rfl) (by decide) (by decide) ?_
    exact ⟨Or.inl ⟨rfl, by omega⟩, rfl⟩
theorem T_X10_match_2 (y : Int) (σ : ga_S) (h2 : σ.1 2 3 ≤ 30) : ga_Mt 6 1 6 mX10_match [Vr 0, Vi 0, Vi y] (HP σ) (fun v h => (0 ≤ y ∧ y < σ.1 2 3) ∧ v = some (Vi (if σ.1 7 y = 0 then σ.1 56 y else -1)) ∧ h = HP σ) (fun E h => ¬ (0 ≤ y ∧ y < σ.1 2 3) ∧ E = xI ∧ h = HP σ) := by
  refine ga_meth [some (Vr 0), some (Vi 0), some (Vi y), none] rfl rfl (by decide +kernel) (Nat.le_of_ble_eq_true rfl) rfl ?_
  refine ga_aload_n dX10_match_0 rfl ?_
  refine ga_iload_n dX10_match_1 rfl ?_
  refine hc_V (T_X10_sideAt_2 σ) fX10_sideAt rfl kX10_sideAt lkX10_58 dX10_match_2 rfl rfl rfl rfl rfl rfl rfl rfl ?_
  refine ga_astore_n (lv2 := [_, _, _, _]) dX10_match_5 (by decide) rfl rfl ?_
  refine ga_aload_n dX10_match_6 rfl ?_
  refine ga_iload_n dX10_match_7 rfl ?_
  refine hc_V (T_X9_isDevice_2 y σ) fX9_isDevice rfl kX9_isDevice lkX10_105 dX10_match_8 rfl rfl rfl rfl rfl rfl rfl rfl ?_
  refine ga_if_ne (tgt := 24) dX10_match_11 rfl (fun c_11 => ?_) (fun c_11 => ?_)
  · rw [tv_ne0] at c_11
    refine ga_aload_n dX10_match_24 rfl ?_
    refine hg_getR grX10_108 dX10_match_25 rfl rfl ?_
    refine ga_iload_n dX10_match_28 rfl ?_
    refine hg_zald dX10_match_29 rfl (by omega) (by omega) ?_
    refine ga_if_eq (tgt := 35) dX10_match_30 rfl (fun c_30 => ?_) (fun c_30 => ?_)
    · rw [if_pos c_30]
      refine ga_iload_n dX10_match_35 rfl ?_
      refine ga_if_ne (tgt := 51) dX10_match_36 rfl (fun c_36 => ?_) (fun c_36 => ?_)
      · exact absurd rfl c_36
      refine ga_aload_n dX10_match_39 rfl ?_
      refine hg_getR grX10_40 dX10_match_40 rfl rfl ?_
      refine hg_getR grX10_204 dX10_match_43 rfl rfl ?_
      refine ga_iload_n dX10_match_46 rfl ?_
      refine hg_iald dX10_match_47 rfl (by omega) (by omega) ?_
      refine ga_goto (tgt := 60) dX10_match_48 rfl ?_
      refine ga_ret (v := some _) ?_ rfl (by decide) (by decide) ⟨dX10_match_60, _, rfl, rfl⟩
      exact ⟨c_11, rfl, rfl⟩
    · rw [if_neg c_30]
      refine ga_iconst dX10_match_33 ⟨by decide, by decide⟩ ?_
      refine ga_ret (v := some _) ?_ rfl (by decide) (by decide) ⟨dX10_match_34, _, rfl, rfl⟩
      exact ⟨c_11, rfl, rfl⟩
  · rw [tv_eq0] at c_11
    refine ga_throw (text := "no such device") tf_91 (by decide +kernel) rfl dX10_match_14 dX10_match_17 dX10_match_18 dX10_match_20 dX10_match_23 (by decide) (Nat.le_of_ble_eq_true rfl) (by decide) (by decide) ?_
    exact ⟨c_11, rfl, rfl⟩
theorem T_X10_match_9 (y : Int) (σ : ga_S) (h2 : σ.1 9 3 ≤ 30) : ga_Mt 6 1 6 mX10_match [Vr 0, Vi 1, Vi y] (HP σ) (fun v h => (0 ≤ y ∧ y < σ.1 9 3) ∧ v = some (Vi (if σ.1 14 y = 0 then σ.1 57 y else -1)) ∧ h = HP σ) (fun E h => ¬ (0 ≤ y ∧ y < σ.1 9 3) ∧ E = xI ∧ h = HP σ) := by
  refine ga_meth [some (Vr 0), some (Vi 1), some (Vi y), none] rfl rfl (by decide +kernel) (Nat.le_of_ble_eq_true rfl) rfl ?_
  refine ga_aload_n dX10_match_0 rfl ?_
  refine ga_iload_n dX10_match_1 rfl ?_
  refine hc_V (T_X10_sideAt_9 σ) fX10_sideAt rfl kX10_sideAt lkX10_58 dX10_match_2 rfl rfl rfl rfl rfl rfl rfl rfl ?_
  refine ga_astore_n (lv2 := [_, _, _, _]) dX10_match_5 (by decide) rfl rfl ?_
  refine ga_aload_n dX10_match_6 rfl ?_
  refine ga_iload_n dX10_match_7 rfl ?_
  refine hc_V (T_X9_isDevice_9 y σ) fX9_isDevice rfl kX9_isDevice lkX10_105 dX10_match_8 rfl rfl rfl rfl rfl rfl rfl rfl ?_
  refine ga_if_ne (tgt := 24) dX10_match_11 rfl (fun c_11 => ?_) (fun c_11 => ?_)
  · rw [tv_ne0] at c_11
    refine ga_aload_n dX10_match_24 rfl ?_
    refine hg_getR grX10_108 dX10_match_25 rfl rfl ?_
    refine ga_iload_n dX10_match_28 rfl ?_
    refine hg_zald dX10_match_29 rfl (by omega) (by omega) ?_
    refine ga_if_eq (tgt := 35) dX10_match_30 rfl (fun c_30 => ?_) (fun c_30 => ?_)
    · rw [if_pos c_30]
      refine ga_iload_n dX10_match_35 rfl ?_
      refine ga_if_ne (tgt := 51) dX10_match_36 rfl (fun c_36 => ?_) (fun c_36 => ?_)
      rotate_left
      · exact absurd c_36 (by decide)
      refine ga_aload_n dX10_match_51 rfl ?_
      refine hg_getR grX10_40 dX10_match_52 rfl rfl ?_
      refine hg_getR grX10_208 dX10_match_55 rfl rfl ?_
      refine ga_iload_n dX10_match_58 rfl ?_
      refine hg_iald dX10_match_59 rfl (by omega) (by omega) ?_
      refine ga_ret (v := some _) ?_ rfl (by decide) (by decide) ⟨dX10_match_60, _, rfl, rfl⟩
      exact ⟨c_11, rfl, rfl⟩
    · rw [if_neg c_30]
      refine ga_iconst dX10_match_33 ⟨by decide, by decide⟩ ?_
      refine ga_ret (v := some _) ?_ rfl (by decide) (by decide) ⟨dX10_match_34, _, rfl, rfl⟩
      exact ⟨c_11, rfl, rfl⟩
  · rw [tv_eq0] at c_11
    refine ga_throw (text := "no such device") tf_91 (by decide +kernel) rfl dX10_match_14 dX10_match_17 dX10_match_18 dX10_match_20 dX10_match_23 (by decide) (Nat.le_of_ble_eq_true rfl) (by decide) (by decide) ?_
    exact ⟨c_11, rfl, rfl⟩
theorem T_X10_netMatch (y : Int) (σ : ga_S) (h2 : σ.1 2 0 ≤ 40) : ga_Mt 6 1 6 mX10_netMatch [Vr 0, Vi y] (HP σ) (fun v h => (0 ≤ y ∧ y < σ.1 2 0) ∧ v = some (Vi (σ.1 58 y)) ∧ h = HP σ) (fun E h => ¬ (0 ≤ y ∧ y < σ.1 2 0) ∧ E = xI ∧ h = HP σ) := by
  refine ga_meth [some (Vr 0), some (Vi y)] rfl rfl (by decide +kernel) (Nat.le_of_ble_eq_true rfl) rfl ?_
  refine ga_aload_n dX10_netMatch_0 rfl ?_
  refine hg_getR grX10_10 dX10_netMatch_1 rfl rfl ?_
  refine hg_getR grX10_188 dX10_netMatch_4 rfl rfl ?_
  refine ga_iload_n dX10_netMatch_7 rfl ?_
  refine hc_V (T_X9_isNet_2 y σ) fX9_isNet rfl kX9_isNet lkX10_119 dX10_netMatch_8 rfl rfl rfl rfl rfl rfl rfl rfl ?_
  refine ga_if_ne (tgt := 24) dX10_netMatch_11 rfl (fun c_11 => ?_) (fun c_11 => ?_)
  · rw [tv_ne0] at c_11
    refine ga_aload_n dX10_netMatch_24 rfl ?_
    refine hg_getR grX10_40 dX10_netMatch_25 rfl rfl ?_
    refine hg_getR grX10_211 dX10_netMatch_28 rfl rfl ?_
    refine ga_iload_n dX10_netMatch_31 rfl ?_
    refine hg_iald dX10_netMatch_32 rfl (by omega) (by omega) ?_
    refine ga_ret (v := some _) ?_ rfl (by decide) (by decide) ⟨dX10_netMatch_33, _, rfl, rfl⟩
    exact ⟨c_11, rfl, rfl⟩
  · rw [tv_eq0] at c_11
    refine ga_throw (text := "no such net") tf_91 (by decide +kernel) rfl dX10_netMatch_14 dX10_netMatch_17 dX10_netMatch_18 dX10_netMatch_20 dX10_netMatch_23 (by decide) (Nat.le_of_ble_eq_true rfl) (by decide) (by decide) ?_
    exact ⟨c_11, rfl, rfl⟩
theorem T_X10_rounds (σ : ga_S) : ga_Mt 0 0 0 mX10_rounds [Vr 0] (HP σ) (gis (some (Vi (σ.1 0 6))) σ) ga_nox := by
  refine ga_meth [some (Vr 0)] rfl rfl (by decide +kernel) (Nat.le_of_ble_eq_true rfl) rfl ?_
  refine ga_aload_n dX10_rounds_0 rfl ?_
  refine hg_getI 6 grX10_51 dX10_rounds_1 rfl rfl rfl ?_
  refine ga_ret (v := some _) ?_ rfl (by decide) (by decide) ⟨dX10_rounds_4, _, rfl, rfl⟩
  exact ⟨rfl, rfl⟩
theorem T_X10_tried (σ : ga_S) : ga_Mt 0 0 0 mX10_tried [Vr 0] (HP σ) (gis (some (Vi (σ.1 0 7))) σ) ga_nox := by
  refine ga_meth [some (Vr 0)] rfl rfl (by decide +kernel) (Nat.le_of_ble_eq_true rfl) rfl ?_
  refine ga_aload_n dX10_tried_0 rfl ?_
  refine hg_getI 7 grX10_55 dX10_tried_1 rfl rfl rfl ?_
  refine ga_ret (v := some _) ?_ rfl (by decide) (by decide) ⟨dX10_tried_4, _, rfl, rfl⟩
  exact ⟨rfl, rfl⟩
