-- the reference: isLive, thrown
theorem T_X11_isLive (x : Int) (σ : ga_S) (h1 : 0 ≤ x) (h2 : x < 60) : ga_Mt 0 0 0 mX11_isLive [Vr 63, Vi x] (HP σ) (gis (some (Vi (tv (bL σ x)))) σ) ga_nox := by
  refine ga_meth [some (Vr 63), some (Vi x)] rfl rfl (by decide +kernel) (Nat.le_of_ble_eq_true rfl) rfl ?_
  refine ga_iload_n dX11_isLive_0 rfl ?_
  refine ga_bipush dX11_isLive_1 ⟨by decide, by decide⟩ (by decide) ?_
  refine ga_irem (z := x % 30) dX11_isLive_3 (by omega) (by decide) (by omega) ?_
  refine ga_aload_n dX11_isLive_4 rfl ?_
  refine hg_getR grX11_30 dX11_isLive_5 rfl rfl ?_
  refine ga_iload_n dX11_isLive_8 rfl ?_
  refine ga_bipush dX11_isLive_9 ⟨by decide, by decide⟩ (by decide) ?_
  refine ga_idiv (z := x / 30) dX11_isLive_11 (by omega) (by decide) (by omega) ?_
  refine hg_iald dX11_isLive_12 rfl (by omega) (by omega) ?_
  refine ga_icmp_ge (tgt := 29) dX11_isLive_13 rfl (fun c_13 => ?_) (fun c_13 => ?_)
  · refine ga_iconst dX11_isLive_29 ⟨by decide, by decide⟩ ?_
    refine ga_ret (v := some _) ?_ rfl (by decide) (by decide) ⟨dX11_isLive_30, _, rfl, rfl⟩
    exact ⟨tvf (fun z => by have := z.1; omega), rfl⟩
  · refine ga_aload_n dX11_isLive_16 rfl ?_
    refine hg_getR grX11_23 dX11_isLive_17 rfl rfl ?_
    refine ga_iload_n dX11_isLive_20 rfl ?_
    refine hg_zald dX11_isLive_21 rfl (by omega) (by omega) ?_
    refine ga_if_ne (tgt := 29) dX11_isLive_22 rfl (fun c_22 => ?_) (fun c_22 => ?_)
    · refine ga_iconst dX11_isLive_29 ⟨by decide, by decide⟩ ?_
      refine ga_ret (v := some _) ?_ rfl (by decide) (by decide) ⟨dX11_isLive_30, _, rfl, rfl⟩
      exact ⟨tvf (fun z => c_22 z.2), rfl⟩
    · refine ga_iconst dX11_isLive_25 ⟨by decide, by decide⟩ ?_
      refine ga_goto (tgt := 30) dX11_isLive_26 rfl ?_
      refine ga_ret (v := some _) ?_ rfl (by decide) (by decide) ⟨dX11_isLive_30, _, rfl, rfl⟩
      exact ⟨tvt ⟨by omega, c_22⟩, rfl⟩
theorem T_X11_thrown (σ : ga_S) : ga_Mt 0 0 0 mX11_thrown [Vr 63] (HP σ) (gis (some (Vi (σ.1 63 0))) σ) ga_nox := by
  refine ga_meth [some (Vr 63)] rfl rfl (by decide +kernel) (Nat.le_of_ble_eq_true rfl) rfl ?_
  refine ga_aload_n dX11_thrown_0 rfl ?_
  refine hg_getI 0 grX11_84 dX11_thrown_1 rfl rfl rfl ?_
  refine ga_ret (v := some _) ?_ rfl (by decide) (by decide) ⟨dX11_thrown_4, _, rfl, rfl⟩
  exact ⟨rfl, rfl⟩
