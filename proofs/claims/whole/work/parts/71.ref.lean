-- the reference: small ones
theorem T_X11_isSide (x : Int) (h : ga_H) : ga_Mt 0 0 0 mX11_isSide [Vi x] h (fun v2 h2 => v2 = some (Vi (tv (x = 0 ∨ x = 1))) ∧ h2 = h) ga_nox := by
  refine ga_meth [some (Vi x)] rfl rfl (by decide +kernel) (Nat.le_of_ble_eq_true rfl) rfl ?_
  refine ga_iload_n dX11_isSide_0 rfl ?_
  refine ga_if_eq (tgt := 9) dX11_isSide_1 rfl (fun c_1 => ?_) (fun c_1 => ?_)
  · refine ga_iconst dX11_isSide_9 ⟨by decide, by decide⟩ ?_
    refine ga_goto (tgt := 14) dX11_isSide_10 rfl ?_
    refine ga_ret (v := some _) ?_ rfl (by decide) (by decide) ⟨dX11_isSide_14, _, rfl, rfl⟩
    exact ⟨tvt (Or.inl c_1), rfl⟩
  · refine ga_iload_n dX11_isSide_4 rfl ?_
    refine ga_iconst dX11_isSide_5 ⟨by decide, by decide⟩ ?_
    refine ga_icmp_ne (tgt := 13) dX11_isSide_6 rfl (fun c_6 => ?_) (fun c_6 => ?_)
    · refine ga_iconst dX11_isSide_13 ⟨by decide, by decide⟩ ?_
      refine ga_ret (v := some _) ?_ rfl (by decide) (by decide) ⟨dX11_isSide_14, _, rfl, rfl⟩
      exact ⟨tvf (fun z => z.elim c_1 c_6), rfl⟩
    · refine ga_iconst dX11_isSide_9 ⟨by decide, by decide⟩ ?_
      refine ga_goto (tgt := 14) dX11_isSide_10 rfl ?_
      refine ga_ret (v := some _) ?_ rfl (by decide) (by decide) ⟨dX11_isSide_14, _, rfl, rfl⟩
      exact ⟨tvt (Or.inr c_6), rfl⟩
theorem T_X11_isKind (x : Int) (h : ga_H) : ga_Mt 0 0 0 mX11_isKind [Vi x] h (fun v2 h2 => v2 = some (Vi (tv (0 ≤ x ∧ x < 8))) ∧ h2 = h) ga_nox := by
  refine ga_meth [some (Vi x)] rfl rfl (by decide +kernel) (Nat.le_of_ble_eq_true rfl) rfl ?_
  refine ga_iload_n dX11_isKind_0 rfl ?_
  refine ga_if_lt (tgt := 14) dX11_isKind_1 rfl (fun c_1 => ?_) (fun c_1 => ?_)
  · refine ga_iconst dX11_isKind_14 ⟨by decide, by decide⟩ ?_
    refine ga_ret (v := some _) ?_ rfl (by decide) (by decide) ⟨dX11_isKind_15, _, rfl, rfl⟩
    exact ⟨tvf (fun z => by omega), rfl⟩
  · refine ga_iload_n dX11_isKind_4 rfl ?_
    refine ga_bipush dX11_isKind_5 ⟨by decide, by decide⟩ (by decide) ?_
    refine ga_icmp_ge (tgt := 14) dX11_isKind_7 rfl (fun c_7 => ?_) (fun c_7 => ?_)
    · refine ga_iconst dX11_isKind_14 ⟨by decide, by decide⟩ ?_
      refine ga_ret (v := some _) ?_ rfl (by decide) (by decide) ⟨dX11_isKind_15, _, rfl, rfl⟩
      exact ⟨tvf (fun z => by omega), rfl⟩
    · refine ga_iconst dX11_isKind_10 ⟨by decide, by decide⟩ ?_
      refine ga_goto (tgt := 15) dX11_isKind_11 rfl ?_
      refine ga_ret (v := some _) ?_ rfl (by decide) (by decide) ⟨dX11_isKind_15, _, rfl, rfl⟩
      exact ⟨tvt ⟨by omega, by omega⟩, rfl⟩
theorem T_X11_isPin (x : Int) (h : ga_H) : ga_Mt 0 0 0 mX11_isPin [Vi x] h (fun v2 h2 => v2 = some (Vi (tv (0 ≤ x ∧ x < 4))) ∧ h2 = h) ga_nox := by
  refine ga_meth [some (Vi x)] rfl rfl (by decide +kernel) (Nat.le_of_ble_eq_true rfl) rfl ?_
  refine ga_iload_n dX11_isPin_0 rfl ?_
  refine ga_if_lt (tgt := 13) dX11_isPin_1 rfl (fun c_1 => ?_) (fun c_1 => ?_)
  · refine ga_iconst dX11_isPin_13 ⟨by decide, by decide⟩ ?_
    refine ga_ret (v := some _) ?_ rfl (by decide) (by decide) ⟨dX11_isPin_14, _, rfl, rfl⟩
    exact ⟨tvf (fun z => by omega), rfl⟩
  · refine ga_iload_n dX11_isPin_4 rfl ?_
    refine ga_iconst dX11_isPin_5 ⟨by decide, by decide⟩ ?_
    refine ga_icmp_ge (tgt := 13) dX11_isPin_6 rfl (fun c_6 => ?_) (fun c_6 => ?_)
    · refine ga_iconst dX11_isPin_13 ⟨by decide, by decide⟩ ?_
      refine ga_ret (v := some _) ?_ rfl (by decide) (by decide) ⟨dX11_isPin_14, _, rfl, rfl⟩
      exact ⟨tvf (fun z => by omega), rfl⟩
    · refine ga_iconst dX11_isPin_9 ⟨by decide, by decide⟩ ?_
      refine ga_goto (tgt := 14) dX11_isPin_10 rfl ?_
      refine ga_ret (v := some _) ?_ rfl (by decide) (by decide) ⟨dX11_isPin_14, _, rfl, rfl⟩
      exact ⟨tvt ⟨by omega, by omega⟩, rfl⟩
theorem T_X11_isNet (s n : Int) (σ : ga_S) : ga_Mt 1 0 0 mX11_isNet [Vr 63, Vi s, Vi n] (HP σ) (gis (some (Vi (tv ((s = 0 ∨ s = 1) ∧ 0 ≤ n ∧ n < σ.1 65 s)))) σ) ga_nox := by
  refine ga_meth [some (Vr 63), some (Vi s), some (Vi n)] rfl rfl (by decide +kernel) (Nat.le_of_ble_eq_true rfl) rfl ?_
  refine ga_iload_n dX11_isNet_0 rfl ?_
  refine hc_S (T_X11_isSide s _) fX11_isSide rfl kX11_isSide lkX11_88 dX11_isNet_1 rfl rfl rfl rfl rfl rfl ?_
  refine ga_if_eq (tgt := 25) dX11_isNet_4 rfl (fun c_4 => ?_) (fun c_4 => ?_)
  · rw [tv_eq0] at c_4
    refine ga_iconst dX11_isNet_25 ⟨by decide, by decide⟩ ?_
    refine ga_ret (v := some _) ?_ rfl (by decide) (by decide) ⟨dX11_isNet_26, _, rfl, rfl⟩
    exact ⟨tvf (fun z => c_4 z.1), rfl⟩
  · rw [tv_ne0] at c_4
    refine ga_iload_n dX11_isNet_7 rfl ?_
    refine ga_if_lt (tgt := 25) dX11_isNet_8 rfl (fun c_8 => ?_) (fun c_8 => ?_)
    · refine ga_iconst dX11_isNet_25 ⟨by decide, by decide⟩ ?_
      refine ga_ret (v := some _) ?_ rfl (by decide) (by decide) ⟨dX11_isNet_26, _, rfl, rfl⟩
      exact ⟨tvf (fun z => by omega), rfl⟩
    · refine ga_iload_n dX11_isNet_11 rfl ?_
      refine ga_aload_n dX11_isNet_12 rfl ?_
      refine hg_getR grX11_13 dX11_isNet_13 rfl rfl ?_
      refine ga_iload_n dX11_isNet_16 rfl ?_
      refine hg_iald dX11_isNet_17 rfl (by omega) (by omega) ?_
      refine ga_icmp_ge (tgt := 25) dX11_isNet_18 rfl (fun c_18 => ?_) (fun c_18 => ?_)
      · refine ga_iconst dX11_isNet_25 ⟨by decide, by decide⟩ ?_
        refine ga_ret (v := some _) ?_ rfl (by decide) (by decide) ⟨dX11_isNet_26, _, rfl, rfl⟩
        exact ⟨tvf (fun z => by omega), rfl⟩
      · refine ga_iconst dX11_isNet_21 ⟨by decide, by decide⟩ ?_
        refine ga_goto (tgt := 26) dX11_isNet_22 rfl ?_
        refine ga_ret (v := some _) ?_ rfl (by decide) (by decide) ⟨dX11_isNet_26, _, rfl, rfl⟩
        exact ⟨tvt ⟨c_4, by omega, by omega⟩, rfl⟩
theorem T_X11_isDevice (s n : Int) (σ : ga_S) : ga_Mt 1 0 0 mX11_isDevice [Vr 63, Vi s, Vi n] (HP σ) (gis (some (Vi (tv ((s = 0 ∨ s = 1) ∧ 0 ≤ n ∧ n < σ.1 70 s)))) σ) ga_nox := by
  refine ga_meth [some (Vr 63), some (Vi s), some (Vi n)] rfl rfl (by decide +kernel) (Nat.le_of_ble_eq_true rfl) rfl ?_
  refine ga_iload_n dX11_isDevice_0 rfl ?_
  refine hc_S (T_X11_isSide s _) fX11_isSide rfl kX11_isSide lkX11_88 dX11_isDevice_1 rfl rfl rfl rfl rfl rfl ?_
  refine ga_if_eq (tgt := 25) dX11_isDevice_4 rfl (fun c_4 => ?_) (fun c_4 => ?_)
  · rw [tv_eq0] at c_4
    refine ga_iconst dX11_isDevice_25 ⟨by decide, by decide⟩ ?_
    refine ga_ret (v := some _) ?_ rfl (by decide) (by decide) ⟨dX11_isDevice_26, _, rfl, rfl⟩
    exact ⟨tvf (fun z => c_4 z.1), rfl⟩
  · rw [tv_ne0] at c_4
    refine ga_iload_n dX11_isDevice_7 rfl ?_
    refine ga_if_lt (tgt := 25) dX11_isDevice_8 rfl (fun c_8 => ?_) (fun c_8 => ?_)
    · refine ga_iconst dX11_isDevice_25 ⟨by decide, by decide⟩ ?_
      refine ga_ret (v := some _) ?_ rfl (by decide) (by decide) ⟨dX11_isDevice_26, _, rfl, rfl⟩
      exact ⟨tvf (fun z => by omega), rfl⟩
    · refine ga_iload_n dX11_isDevice_11 rfl ?_
      refine ga_aload_n dX11_isDevice_12 rfl ?_
      refine hg_getR grX11_30 dX11_isDevice_13 rfl rfl ?_
      refine ga_iload_n dX11_isDevice_16 rfl ?_
      refine hg_iald dX11_isDevice_17 rfl (by omega) (by omega) ?_
      refine ga_icmp_ge (tgt := 25) dX11_isDevice_18 rfl (fun c_18 => ?_) (fun c_18 => ?_)
      · refine ga_iconst dX11_isDevice_25 ⟨by decide, by decide⟩ ?_
        refine ga_ret (v := some _) ?_ rfl (by decide) (by decide) ⟨dX11_isDevice_26, _, rfl, rfl⟩
        exact ⟨tvf (fun z => by omega), rfl⟩
      · refine ga_iconst dX11_isDevice_21 ⟨by decide, by decide⟩ ?_
        refine ga_goto (tgt := 26) dX11_isDevice_22 rfl ?_
        refine ga_ret (v := some _) ?_ rfl (by decide) (by decide) ⟨dX11_isDevice_26, _, rfl, rfl⟩
        exact ⟨tvt ⟨c_4, by omega, by omega⟩, rfl⟩
theorem T_X11_group (x k : Int) (σ : ga_S) (h1 : 0 ≤ x) (h2 : x < 60) (h3 : 0 ≤ k) (h4 : k < 4) (hk : 0 ≤ σ.1 66 x ∧ σ.1 66 x < 8) : ga_Mt 0 0 0 mX11_group [Vr 63, Vi x, Vi k] (HP σ) (gis (some (Vi (gB σ (4 * x + k)))) σ) ga_nox := by
  refine ga_meth [some (Vr 63), some (Vi x), some (Vi k)] rfl rfl (by decide +kernel) (Nat.le_of_ble_eq_true rfl) rfl ?_
  rw [gB_at h3 h4]
  refine ga_aload_n dX11_group_0 rfl ?_
  refine hg_getR grX11_33 dX11_group_1 rfl rfl ?_
  refine ga_iconst dX11_group_4 ⟨by decide, by decide⟩ ?_
  refine ga_aload_n dX11_group_5 rfl ?_
  refine hg_getR grX11_16 dX11_group_6 rfl rfl ?_
  refine ga_iload_n dX11_group_9 rfl ?_
  refine hg_iald dX11_group_10 rfl (by omega) (by omega) ?_
  refine ga_imul dX11_group_11 rfl (⟨by omega, by omega⟩) ?_
  refine ga_iload_n dX11_group_12 rfl ?_
  refine ga_iadd (z := σ.1 66 x * 4 + k) dX11_group_13 (by omega) (⟨by omega, by omega⟩) ?_
  refine hg_iald dX11_group_14 rfl (by omega) (by omega) ?_
  refine ga_ret (v := some _) ?_ rfl (by decide) (by decide) ⟨dX11_group_15, _, rfl, rfl⟩
  exact ⟨rfl, rfl⟩
