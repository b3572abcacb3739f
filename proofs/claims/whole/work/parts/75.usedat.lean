-- the reference: isUsed, isUsedAt
theorem T_X11_isUsed (s n : Int) (σ : ga_S) (D : Nat) (h1 : s = 0 ∨ s = 1) (hD : σ.1 70 s = D) (hD2 : D ≤ 30) (n1 : 0 ≤ n) (n2 : n < 40) : ga_Mt 1 0 0 mX11_isUsed [Vr 63, Vi s, Vi n] (HP σ) (gis (some (Vi (tv (σ.1 64 (40 * s + n) ≠ -1 ∨ 0 < allB σ s n)))) σ) ga_nox := by
  refine ga_meth [some (Vr 63), some (Vi s), some (Vi n)] rfl rfl (by decide +kernel) (Nat.le_of_ble_eq_true rfl) rfl ?_
  refine ga_aload_n dX11_isUsed_0 rfl ?_
  refine hg_getR grX11_7 dX11_isUsed_1 rfl rfl ?_
  refine ga_bipush dX11_isUsed_4 ⟨by decide, by decide⟩ (by decide) ?_
  refine ga_iload_n dX11_isUsed_6 rfl ?_
  refine ga_imul dX11_isUsed_7 rfl (⟨by omega, by omega⟩) ?_
  refine ga_iload_n dX11_isUsed_8 rfl ?_
  refine ga_iadd dX11_isUsed_9 rfl (⟨by omega, by omega⟩) ?_
  refine hg_iald dX11_isUsed_10 rfl (by omega) (by omega) ?_
  refine ga_iconst dX11_isUsed_11 ⟨by decide, by decide⟩ ?_
  refine ga_icmp_ne (tgt := 24) dX11_isUsed_12 rfl (fun c_12 => ?_) (fun c_12 => ?_)
  · refine ga_iconst dX11_isUsed_24 ⟨by decide, by decide⟩ ?_
    refine ga_goto (tgt := 29) dX11_isUsed_25 rfl ?_
    refine ga_ret (v := some _) ?_ rfl (by decide) (by decide) ⟨dX11_isUsed_29, _, rfl, rfl⟩
    exact ⟨tvt (Or.inl c_12), rfl⟩
  · refine ga_aload_n dX11_isUsed_15 rfl ?_
    refine ga_iload_n dX11_isUsed_16 rfl ?_
    refine ga_iload_n dX11_isUsed_17 rfl ?_
    refine hc_V (T_X11_all s n σ D h1 hD hD2) fX11_all rfl kX11_all lkX11_118 dX11_isUsed_18 rfl rfl rfl rfl rfl rfl rfl rfl ?_
    refine ga_if_le (tgt := 28) dX11_isUsed_21 rfl (fun c_21 => ?_) (fun c_21 => ?_)
    · refine ga_iconst dX11_isUsed_28 ⟨by decide, by decide⟩ ?_
      refine ga_ret (v := some _) ?_ rfl (by decide) (by decide) ⟨dX11_isUsed_29, _, rfl, rfl⟩
      exact ⟨tvf (fun z => z.elim (fun w => w c_12) (fun w => by omega)), rfl⟩
    · refine ga_iconst dX11_isUsed_24 ⟨by decide, by decide⟩ ?_
      refine ga_goto (tgt := 29) dX11_isUsed_25 rfl ?_
      refine ga_ret (v := some _) ?_ rfl (by decide) (by decide) ⟨dX11_isUsed_29, _, rfl, rfl⟩
      exact ⟨tvt (Or.inr (by omega)), rfl⟩
theorem T_X11_isUsedAt (y : Int) (σ : ga_S) (D E : Nat) (y1 : 0 ≤ y) (y2 : y < 80) (hD : σ.1 70 0 = D) (hD2 : D ≤ 30) (hE : σ.1 70 1 = E) (hE2 : E ≤ 30) : ga_Mt 2 0 0 mX11_isUsedAt [Vr 63, Vi y] (HP σ) (gis (some (Vi (tv (bU σ y)))) σ) ga_nox := by
  have hs : ∃ F : Nat, σ.1 70 (y / 40) = F ∧ F ≤ 30 := by
    rcases (show y / 40 = 0 ∨ y / 40 = 1 by omega) with q | q <;> rw [q]
    · exact ⟨D, hD, hD2⟩
    · exact ⟨E, hE, hE2⟩
  obtain ⟨F, hF, hF2⟩ := hs
  have ye : 40 * (y / 40) + y % 40 = y := by omega
  refine ga_meth [some (Vr 63), some (Vi y)] rfl rfl (by decide +kernel) (Nat.le_of_ble_eq_true rfl) rfl ?_
  refine ga_iload_n dX11_isUsedAt_0 rfl ?_
  refine ga_bipush dX11_isUsedAt_1 ⟨by decide, by decide⟩ (by decide) ?_
  refine ga_irem (z := y % 40) dX11_isUsedAt_3 (by omega) (by decide) (by omega) ?_
  refine ga_aload_n dX11_isUsedAt_4 rfl ?_
  refine hg_getR grX11_13 dX11_isUsedAt_5 rfl rfl ?_
  refine ga_iload_n dX11_isUsedAt_8 rfl ?_
  refine ga_bipush dX11_isUsedAt_9 ⟨by decide, by decide⟩ (by decide) ?_
  refine ga_idiv (z := y / 40) dX11_isUsedAt_11 (by omega) (by decide) (by omega) ?_
  refine hg_iald dX11_isUsedAt_12 rfl (by omega) (by omega) ?_
  refine ga_icmp_ge (tgt := 35) dX11_isUsedAt_13 rfl (fun c_13 => ?_) (fun c_13 => ?_)
  · refine ga_iconst dX11_isUsedAt_35 ⟨by decide, by decide⟩ ?_
    refine ga_ret (v := some _) ?_ rfl (by decide) (by decide) ⟨dX11_isUsedAt_36, _, rfl, rfl⟩
    exact ⟨tvf (fun z => by have := z.1; omega), rfl⟩
  · refine ga_aload_n dX11_isUsedAt_16 rfl ?_
    refine ga_iload_n dX11_isUsedAt_17 rfl ?_
    refine ga_bipush dX11_isUsedAt_18 ⟨by decide, by decide⟩ (by decide) ?_
    refine ga_idiv (z := y / 40) dX11_isUsedAt_20 (by omega) (by decide) (by omega) ?_
    refine ga_iload_n dX11_isUsedAt_21 rfl ?_
    refine ga_bipush dX11_isUsedAt_22 ⟨by decide, by decide⟩ (by decide) ?_
    refine ga_irem (z := y % 40) dX11_isUsedAt_24 (by omega) (by decide) (by omega) ?_
    refine hc_V (T_X11_isUsed (y / 40) (y % 40) σ F (by omega) hF hF2 (by omega) (by omega)) fX11_isUsed rfl kX11_isUsed lkX11_140 dX11_isUsedAt_25 rfl rfl rfl rfl rfl rfl rfl rfl ?_
    refine ga_if_eq (tgt := 35) dX11_isUsedAt_28 rfl (fun c_28 => ?_) (fun c_28 => ?_)
    · rw [tv_eq0, ye] at c_28
      refine ga_iconst dX11_isUsedAt_35 ⟨by decide, by decide⟩ ?_
      refine ga_ret (v := some _) ?_ rfl (by decide) (by decide) ⟨dX11_isUsedAt_36, _, rfl, rfl⟩
      exact ⟨tvf (fun z => c_28 z.2), rfl⟩
    · rw [tv_ne0, ye] at c_28
      refine ga_iconst dX11_isUsedAt_31 ⟨by decide, by decide⟩ ?_
      refine ga_goto (tgt := 36) dX11_isUsedAt_32 rfl ?_
      refine ga_ret (v := some _) ?_ rfl (by decide) (by decide) ⟨dX11_isUsedAt_36, _, rfl, rfl⟩
      exact ⟨tvt ⟨by omega, c_28⟩, rfl⟩
