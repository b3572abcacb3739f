-- Match: does it hold now
def ppP (g1 g2 pr : Int → Int) (D : Int) : Prop := ∀ d : Int, 0 ≤ d → d < D → g1 d = 0 → pr d ≠ -1 ∧ g2 (pr d) = 0
def puP (u1 u2 t1 t2 pr : Int → Int) (N : Int) : Prop := ∀ n : Int, 0 ≤ n → n < N → u1 n ≠ 0 → pr n ≠ -1 ∧ u2 (pr n) ≠ 0 ∧ t1 n = t2 (pr n)
theorem T_X5_pairsPresent_2 (σ : ga_S) (D : Nat) (hD : σ.1 2 3 = D) (hD2 : D ≤ 30) (hp : ∀ d : Int, 0 ≤ d → d < D → -1 ≤ σ.1 56 d ∧ σ.1 56 d < 30) : ga_Mt 0 0 0 mX5_pairsPresent [Vr 2, Vr 9, Vr 56] (HP σ) (gis (some (Vi (tv (ppP (σ.1 7) (σ.1 14) (σ.1 56) D)))) σ) ga_nox := by
  refine ga_meth [some (Vr 2), some (Vr 9), some (Vr 56), none, none] rfl rfl (by decide +kernel) (Nat.le_of_ble_eq_true rfl) rfl ?_
  refine ga_iconst dX5_pairsPresent_0 ⟨by decide, by decide⟩ ?_
  refine ga_istore_n (lv2 := [_, _, _, _, _]) dX5_pairsPresent_1 (by decide) rfl rfl ?_
  refine (ga_loop D (fun i => ∀ z, ppP (σ.1 7) (σ.1 14) (σ.1 56) i → ga_W 0 0 0 0 0 mX5_pairsPresent (gis (some (Vi (tv (ppP (σ.1 7) (σ.1 14) (σ.1 56) D)))) σ) ga_nox 2 [some (Vr 2), some (Vr 9), some (Vr 56), some (Vi (i : Int)), z] [] (HP σ)) ?_ ?_ 0 (Nat.zero_le _) none (fun d a b => by omega) : _)
  · intro z h
    refine ga_iload_n dX5_pairsPresent_2 rfl ?_
    refine ga_aload_n dX5_pairsPresent_3 rfl ?_
    refine hg_getI 3 grX5_57 dX5_pairsPresent_4 rfl rfl rfl ?_
    refine ga_icmp_ge (tgt := 48) dX5_pairsPresent_7 rfl (fun c_7 => ?_) (fun c_7 => ?_)
    · refine ga_iconst dX5_pairsPresent_48 ⟨by decide, by decide⟩ ?_
      refine ga_ret (v := some _) ?_ rfl (by decide) (by decide) ⟨dX5_pairsPresent_49, _, rfl, rfl⟩
      exact ⟨tvt h, rfl⟩
    · omega
  · intro i hi k z h
    have p := hp i (by omega) (by omega)
    have GO : (σ.1 7 (i : Int) = 0 → σ.1 56 (i : Int) ≠ -1 ∧ σ.1 14 (σ.1 56 (i : Int)) = 0) → ∀ z, ga_W 0 0 0 0 0 mX5_pairsPresent (gis (some (Vi (tv (ppP (σ.1 7) (σ.1 14) (σ.1 56) D)))) σ) ga_nox 42 [some (Vr 2), some (Vr 9), some (Vr 56), some (Vi (i : Int)), z] [] (HP σ) := by
      intro hn z
      refine ga_iinc (z := ((i + 1 : Nat) : Int)) (lv2 := [_, _, _, _, _]) dX5_pairsPresent_42 (by decide) rfl rfl (by omega) (⟨by omega, by omega⟩) rfl ?_
      refine ga_goto (tgt := 2) dX5_pairsPresent_45 rfl ?_
      refine k _ (fun d a b => ?_)
      rcases Int.lt_or_le d i with w | w
      · exact h d a w
      · rw [show d = i by omega]; exact hn
    refine ga_iload_n dX5_pairsPresent_2 rfl ?_
    refine ga_aload_n dX5_pairsPresent_3 rfl ?_
    refine hg_getI 3 grX5_57 dX5_pairsPresent_4 rfl rfl rfl ?_
    refine ga_icmp_ge (tgt := 48) dX5_pairsPresent_7 rfl (fun c_7 => ?_) (fun c_7 => ?_)
    · omega
    · refine ga_aload_n dX5_pairsPresent_10 rfl ?_
      refine ga_iload_n dX5_pairsPresent_11 rfl ?_
      refine hg_iald dX5_pairsPresent_12 rfl (by omega) (by omega) ?_
      refine ga_istore (lv2 := [_, _, _, _, _]) dX5_pairsPresent_13 (by decide) rfl rfl ?_
      refine ga_aload_n dX5_pairsPresent_15 rfl ?_
      refine hg_getR grX5_63 dX5_pairsPresent_16 rfl rfl ?_
      refine ga_iload_n dX5_pairsPresent_19 rfl ?_
      refine hg_zald dX5_pairsPresent_20 rfl (by omega) (by omega) ?_
      refine ga_if_ne (tgt := 42) dX5_pairsPresent_21 rfl (fun c_21 => ?_) (fun c_21 => ?_)
      · exact GO (fun w => absurd w c_21) _
      · refine ga_iload dX5_pairsPresent_24 rfl ?_
        refine ga_iconst dX5_pairsPresent_26 ⟨by decide, by decide⟩ ?_
        refine ga_icmp_eq (tgt := 40) dX5_pairsPresent_27 rfl (fun c_27 => ?_) (fun c_27 => ?_)
        · refine ga_iconst dX5_pairsPresent_40 ⟨by decide, by decide⟩ ?_
          refine ga_ret (v := some _) ?_ rfl (by decide) (by decide) ⟨dX5_pairsPresent_41, _, rfl, rfl⟩
          exact ⟨tvf (fun w => (w i (by omega) (by omega) c_21).1 c_27), rfl⟩
        · refine ga_aload_n dX5_pairsPresent_30 rfl ?_
          refine hg_getR grX5_63 dX5_pairsPresent_31 rfl rfl ?_
          refine ga_iload dX5_pairsPresent_34 rfl ?_
          refine hg_zald dX5_pairsPresent_36 rfl (by omega) (by omega) ?_
          refine ga_if_eq (tgt := 42) dX5_pairsPresent_37 rfl (fun c_37 => ?_) (fun c_37 => ?_)
          · exact GO (fun _ => ⟨c_27, c_37⟩) _
          · refine ga_iconst dX5_pairsPresent_40 ⟨by decide, by decide⟩ ?_
            refine ga_ret (v := some _) ?_ rfl (by decide) (by decide) ⟨dX5_pairsPresent_41, _, rfl, rfl⟩
            exact ⟨tvf (fun w => c_37 (w i (by omega) (by omega) c_21).2), rfl⟩
theorem T_X5_pairsUsed_2 (σ : ga_S) (N : Nat) (hN : σ.1 2 0 = N) (hN2 : N ≤ 40) (hp : ∀ d : Int, 0 ≤ d → d < N → -1 ≤ σ.1 58 d ∧ σ.1 58 d < 40) : ga_Mt 0 0 0 mX5_pairsUsed [Vr 2, Vr 9, Vr 58] (HP σ) (gis (some (Vi (tv (puP (σ.1 4) (σ.1 11) (σ.1 3) (σ.1 10) (σ.1 58) N)))) σ) ga_nox := by
  refine ga_meth [some (Vr 2), some (Vr 9), some (Vr 58), none, none] rfl rfl (by decide +kernel) (Nat.le_of_ble_eq_true rfl) rfl ?_
  refine ga_iconst dX5_pairsUsed_0 ⟨by decide, by decide⟩ ?_
  refine ga_istore_n (lv2 := [_, _, _, _, _]) dX5_pairsUsed_1 (by decide) rfl rfl ?_
  refine (ga_loop N (fun i => ∀ z, puP (σ.1 4) (σ.1 11) (σ.1 3) (σ.1 10) (σ.1 58) i → ga_W 0 0 0 0 0 mX5_pairsUsed (gis (some (Vi (tv (puP (σ.1 4) (σ.1 11) (σ.1 3) (σ.1 10) (σ.1 58) N)))) σ) ga_nox 2 [some (Vr 2), some (Vr 9), some (Vr 58), some (Vi (i : Int)), z] [] (HP σ)) ?_ ?_ 0 (Nat.zero_le _) none (fun d a b => by omega) : _)
  · intro z h
    refine ga_iload_n dX5_pairsUsed_2 rfl ?_
    refine ga_aload_n dX5_pairsUsed_3 rfl ?_
    refine hg_getI 0 grX5_67 dX5_pairsUsed_4 rfl rfl rfl ?_
    refine ga_icmp_ge (tgt := 67) dX5_pairsUsed_7 rfl (fun c_7 => ?_) (fun c_7 => ?_)
    · refine ga_iconst dX5_pairsUsed_67 ⟨by decide, by decide⟩ ?_
      refine ga_ret (v := some _) ?_ rfl (by decide) (by decide) ⟨dX5_pairsUsed_68, _, rfl, rfl⟩
      exact ⟨tvt h, rfl⟩
    · omega
  · intro i hi k z h
    have p := hp i (by omega) (by omega)
    have GO : (σ.1 4 (i : Int) ≠ 0 → σ.1 58 (i : Int) ≠ -1 ∧ σ.1 11 (σ.1 58 (i : Int)) ≠ 0 ∧ σ.1 3 (i : Int) = σ.1 10 (σ.1 58 (i : Int))) → ∀ z, ga_W 0 0 0 0 0 mX5_pairsUsed (gis (some (Vi (tv (puP (σ.1 4) (σ.1 11) (σ.1 3) (σ.1 10) (σ.1 58) N)))) σ) ga_nox 61 [some (Vr 2), some (Vr 9), some (Vr 58), some (Vi (i : Int)), z] [] (HP σ) := by
      intro hn z
      refine ga_iinc (z := ((i + 1 : Nat) : Int)) (lv2 := [_, _, _, _, _]) dX5_pairsUsed_61 (by decide) rfl rfl (by omega) (⟨by omega, by omega⟩) rfl ?_
      refine ga_goto (tgt := 2) dX5_pairsUsed_64 rfl ?_
      refine k _ (fun d a b => ?_)
      rcases Int.lt_or_le d i with w | w
      · exact h d a w
      · rw [show d = i by omega]; exact hn
    refine ga_iload_n dX5_pairsUsed_2 rfl ?_
    refine ga_aload_n dX5_pairsUsed_3 rfl ?_
    refine hg_getI 0 grX5_67 dX5_pairsUsed_4 rfl rfl rfl ?_
    refine ga_icmp_ge (tgt := 67) dX5_pairsUsed_7 rfl (fun c_7 => ?_) (fun c_7 => ?_)
    · omega
    · refine ga_aload_n dX5_pairsUsed_10 rfl ?_
      refine ga_iload_n dX5_pairsUsed_11 rfl ?_
      refine hg_iald dX5_pairsUsed_12 rfl (by omega) (by omega) ?_
      refine ga_istore (lv2 := [_, _, _, _, _]) dX5_pairsUsed_13 (by decide) rfl rfl ?_
      refine ga_aload_n dX5_pairsUsed_15 rfl ?_
      refine hg_getR grX5_70 dX5_pairsUsed_16 rfl rfl ?_
      refine ga_iload_n dX5_pairsUsed_19 rfl ?_
      refine hg_zald dX5_pairsUsed_20 rfl (by omega) (by omega) ?_
      refine ga_if_ne (tgt := 27) dX5_pairsUsed_21 rfl (fun c_21 => ?_) (fun c_21 => ?_)
      · refine ga_iload dX5_pairsUsed_27 rfl ?_
        refine ga_iconst dX5_pairsUsed_29 ⟨by decide, by decide⟩ ?_
        refine ga_icmp_eq (tgt := 59) dX5_pairsUsed_30 rfl (fun c_30 => ?_) (fun c_30 => ?_)
        · refine ga_iconst dX5_pairsUsed_59 ⟨by decide, by decide⟩ ?_
          refine ga_ret (v := some _) ?_ rfl (by decide) (by decide) ⟨dX5_pairsUsed_60, _, rfl, rfl⟩
          exact ⟨tvf (fun w => (w i (by omega) (by omega) c_21).1 c_30), rfl⟩
        · refine ga_aload_n dX5_pairsUsed_33 rfl ?_
          refine hg_getR grX5_70 dX5_pairsUsed_34 rfl rfl ?_
          refine ga_iload dX5_pairsUsed_37 rfl ?_
          refine hg_zald dX5_pairsUsed_39 rfl (by omega) (by omega) ?_
          refine ga_if_eq (tgt := 59) dX5_pairsUsed_40 rfl (fun c_40 => ?_) (fun c_40 => ?_)
          · refine ga_iconst dX5_pairsUsed_59 ⟨by decide, by decide⟩ ?_
            refine ga_ret (v := some _) ?_ rfl (by decide) (by decide) ⟨dX5_pairsUsed_60, _, rfl, rfl⟩
            exact ⟨tvf (fun w => (w i (by omega) (by omega) c_21).2.1 c_40), rfl⟩
          · refine ga_aload_n dX5_pairsUsed_43 rfl ?_
            refine hg_getR grX5_73 dX5_pairsUsed_44 rfl rfl ?_
            refine ga_iload_n dX5_pairsUsed_47 rfl ?_
            refine hg_iald dX5_pairsUsed_48 rfl (by omega) (by omega) ?_
            refine ga_aload_n dX5_pairsUsed_49 rfl ?_
            refine hg_getR grX5_73 dX5_pairsUsed_50 rfl rfl ?_
            refine ga_iload dX5_pairsUsed_53 rfl ?_
            refine hg_iald dX5_pairsUsed_55 rfl (by omega) (by omega) ?_
            refine ga_icmp_eq (tgt := 61) dX5_pairsUsed_56 rfl (fun c_56 => ?_) (fun c_56 => ?_)
            · exact GO (fun _ => ⟨c_30, c_40, c_56⟩) _
            · refine ga_iconst dX5_pairsUsed_59 ⟨by decide, by decide⟩ ?_
              refine ga_ret (v := some _) ?_ rfl (by decide) (by decide) ⟨dX5_pairsUsed_60, _, rfl, rfl⟩
              exact ⟨tvf (fun w => c_56 (w i (by omega) (by omega) c_21).2.2), rfl⟩
      · refine ga_goto (tgt := 61) dX5_pairsUsed_24 rfl ?_
        exact GO (fun w => absurd c_21 w) _
theorem T_X5_pairsPresent_9 (σ : ga_S) (D : Nat) (hD : σ.1 9 3 = D) (hD2 : D ≤ 30) (hp : ∀ d : Int, 0 ≤ d → d < D → -1 ≤ σ.1 57 d ∧ σ.1 57 d < 30) : ga_Mt 0 0 0 mX5_pairsPresent [Vr 9, Vr 2, Vr 57] (HP σ) (gis (some (Vi (tv (ppP (σ.1 14) (σ.1 7) (σ.1 57) D)))) σ) ga_nox := by
  refine ga_meth [some (Vr 9), some (Vr 2), some (Vr 57), none, none] rfl rfl (by decide +kernel) (Nat.le_of_ble_eq_true rfl) rfl ?_
  refine ga_iconst dX5_pairsPresent_0 ⟨by decide, by decide⟩ ?_
  refine ga_istore_n (lv2 := [_, _, _, _, _]) dX5_pairsPresent_1 (by decide) rfl rfl ?_
  refine (ga_loop D (fun i => ∀ z, ppP (σ.1 14) (σ.1 7) (σ.1 57) i → ga_W 0 0 0 0 0 mX5_pairsPresent (gis (some (Vi (tv (ppP (σ.1 14) (σ.1 7) (σ.1 57) D)))) σ) ga_nox 2 [some (Vr 9), some (Vr 2), some (Vr 57), some (Vi (i : Int)), z] [] (HP σ)) ?_ ?_ 0 (Nat.zero_le _) none (fun d a b => by omega) : _)
  · intro z h
    refine ga_iload_n dX5_pairsPresent_2 rfl ?_
    refine ga_aload_n dX5_pairsPresent_3 rfl ?_
    refine hg_getI 3 grX5_57 dX5_pairsPresent_4 rfl rfl rfl ?_
    refine ga_icmp_ge (tgt := 48) dX5_pairsPresent_7 rfl (fun c_7 => ?_) (fun c_7 => ?_)
    · refine ga_iconst dX5_pairsPresent_48 ⟨by decide, by decide⟩ ?_
      refine ga_ret (v := some _) ?_ rfl (by decide) (by decide) ⟨dX5_pairsPresent_49, _, rfl, rfl⟩
      exact ⟨tvt h, rfl⟩
    · omega
  · intro i hi k z h
    have p := hp i (by omega) (by omega)
    have GO : (σ.1 14 (i : Int) = 0 → σ.1 57 (i : Int) ≠ -1 ∧ σ.1 7 (σ.1 57 (i : Int)) = 0) → ∀ z, ga_W 0 0 0 0 0 mX5_pairsPresent (gis (some (Vi (tv (ppP (σ.1 14) (σ.1 7) (σ.1 57) D)))) σ) ga_nox 42 [some (Vr 9), some (Vr 2), some (Vr 57), some (Vi (i : Int)), z] [] (HP σ) := by
      intro hn z
      refine ga_iinc (z := ((i + 1 : Nat) : Int)) (lv2 := [_, _, _, _, _]) dX5_pairsPresent_42 (by decide) rfl rfl (by omega) (⟨by omega, by omega⟩) rfl ?_
      refine ga_goto (tgt := 2) dX5_pairsPresent_45 rfl ?_
      refine k _ (fun d a b => ?_)
      rcases Int.lt_or_le d i with w | w
      · exact h d a w
      · rw [show d = i by omega]; exact hn
    refine ga_iload_n dX5_pairsPresent_2 rfl ?_
    refine ga_aload_n dX5_pairsPresent_3 rfl ?_
    refine hg_getI 3 grX5_57 dX5_pairsPresent_4 rfl rfl rfl ?_
    refine ga_icmp_ge (tgt := 48) dX5_pairsPresent_7 rfl (fun c_7 => ?_) (fun c_7 => ?_)
    · omega
    · refine ga_aload_n dX5_pairsPresent_10 rfl ?_
      refine ga_iload_n dX5_pairsPresent_11 rfl ?_
      refine hg_iald dX5_pairsPresent_12 rfl (by omega) (by omega) ?_
      refine ga_istore (lv2 := [_, _, _, _, _]) dX5_pairsPresent_13 (by decide) rfl rfl ?_
      refine ga_aload_n dX5_pairsPresent_15 rfl ?_
      refine hg_getR grX5_63 dX5_pairsPresent_16 rfl rfl ?_
      refine ga_iload_n dX5_pairsPresent_19 rfl ?_
      refine hg_zald dX5_pairsPresent_20 rfl (by omega) (by omega) ?_
      refine ga_if_ne (tgt := 42) dX5_pairsPresent_21 rfl (fun c_21 => ?_) (fun c_21 => ?_)
      · exact GO (fun w => absurd w c_21) _
      · refine ga_iload dX5_pairsPresent_24 rfl ?_
        refine ga_iconst dX5_pairsPresent_26 ⟨by decide, by decide⟩ ?_
        refine ga_icmp_eq (tgt := 40) dX5_pairsPresent_27 rfl (fun c_27 => ?_) (fun c_27 => ?_)
        · refine ga_iconst dX5_pairsPresent_40 ⟨by decide, by decide⟩ ?_
          refine ga_ret (v := some _) ?_ rfl (by decide) (by decide) ⟨dX5_pairsPresent_41, _, rfl, rfl⟩
          exact ⟨tvf (fun w => (w i (by omega) (by omega) c_21).1 c_27), rfl⟩
        · refine ga_aload_n dX5_pairsPresent_30 rfl ?_
          refine hg_getR grX5_63 dX5_pairsPresent_31 rfl rfl ?_
          refine ga_iload dX5_pairsPresent_34 rfl ?_
          refine hg_zald dX5_pairsPresent_36 rfl (by omega) (by omega) ?_
          refine ga_if_eq (tgt := 42) dX5_pairsPresent_37 rfl (fun c_37 => ?_) (fun c_37 => ?_)
          · exact GO (fun _ => ⟨c_27, c_37⟩) _
          · refine ga_iconst dX5_pairsPresent_40 ⟨by decide, by decide⟩ ?_
            refine ga_ret (v := some _) ?_ rfl (by decide) (by decide) ⟨dX5_pairsPresent_41, _, rfl, rfl⟩
            exact ⟨tvf (fun w => c_37 (w i (by omega) (by omega) c_21).2), rfl⟩
theorem T_X5_pairsUsed_9 (σ : ga_S) (N : Nat) (hN : σ.1 9 0 = N) (hN2 : N ≤ 40) (hp : ∀ d : Int, 0 ≤ d → d < N → -1 ≤ σ.1 59 d ∧ σ.1 59 d < 40) : ga_Mt 0 0 0 mX5_pairsUsed [Vr 9, Vr 2, Vr 59] (HP σ) (gis (some (Vi (tv (puP (σ.1 11) (σ.1 4) (σ.1 10) (σ.1 3) (σ.1 59) N)))) σ) ga_nox := by
  refine ga_meth [some (Vr 9), some (Vr 2), some (Vr 59), none, none] rfl rfl (by decide +kernel) (Nat.le_of_ble_eq_true rfl) rfl ?_
  refine ga_iconst dX5_pairsUsed_0 ⟨by decide, by decide⟩ ?_
  refine ga_istore_n (lv2 := [_, _, _, _, _]) dX5_pairsUsed_1 (by decide) rfl rfl ?_
  refine (ga_loop N (fun i => ∀ z, puP (σ.1 11) (σ.1 4) (σ.1 10) (σ.1 3) (σ.1 59) i → ga_W 0 0 0 0 0 mX5_pairsUsed (gis (some (Vi (tv (puP (σ.1 11) (σ.1 4) (σ.1 10) (σ.1 3) (σ.1 59) N)))) σ) ga_nox 2 [some (Vr 9), some (Vr 2), some (Vr 59), some (Vi (i : Int)), z] [] (HP σ)) ?_ ?_ 0 (Nat.zero_le _) none (fun d a b => by omega) : _)
  · intro z h
    refine ga_iload_n dX5_pairsUsed_2 rfl ?_
    refine ga_aload_n dX5_pairsUsed_3 rfl ?_
    refine hg_getI 0 grX5_67 dX5_pairsUsed_4 rfl rfl rfl ?_
    refine ga_icmp_ge (tgt := 67) dX5_pairsUsed_7 rfl (fun c_7 => ?_) (fun c_7 => ?_)
    · refine ga_iconst dX5_pairsUsed_67 ⟨by decide, by decide⟩ ?_
      refine ga_ret (v := some _) ?_ rfl (by decide) (by decide) ⟨dX5_pairsUsed_68, _, rfl, rfl⟩
      exact ⟨tvt h, rfl⟩
    · omega
  · intro i hi k z h
    have p := hp i (by omega) (by omega)
    have GO : (σ.1 11 (i : Int) ≠ 0 → σ.1 59 (i : Int) ≠ -1 ∧ σ.1 4 (σ.1 59 (i : Int)) ≠ 0 ∧ σ.1 10 (i : Int) = σ.1 3 (σ.1 59 (i : Int))) → ∀ z, ga_W 0 0 0 0 0 mX5_pairsUsed (gis (some (Vi (tv (puP (σ.1 11) (σ.1 4) (σ.1 10) (σ.1 3) (σ.1 59) N)))) σ) ga_nox 61 [some (Vr 9), some (Vr 2), some (Vr 59), some (Vi (i : Int)), z] [] (HP σ) := by
      intro hn z
      refine ga_iinc (z := ((i + 1 : Nat) : Int)) (lv2 := [_, _, _, _, _]) dX5_pairsUsed_61 (by decide) rfl rfl (by omega) (⟨by omega, by omega⟩) rfl ?_
      refine ga_goto (tgt := 2) dX5_pairsUsed_64 rfl ?_
      refine k _ (fun d a b => ?_)
      rcases Int.lt_or_le d i with w | w
      · exact h d a w
      · rw [show d = i by omega]; exact hn
    refine ga_iload_n dX5_pairsUsed_2 rfl ?_
    refine ga_aload_n dX5_pairsUsed_3 rfl ?_
    refine hg_getI 0 grX5_67 dX5_pairsUsed_4 rfl rfl rfl ?_
    refine ga_icmp_ge (tgt := 67) dX5_pairsUsed_7 rfl (fun c_7 => ?_) (fun c_7 => ?_)
    · omega
    · refine ga_aload_n dX5_pairsUsed_10 rfl ?_
      refine ga_iload_n dX5_pairsUsed_11 rfl ?_
      refine hg_iald dX5_pairsUsed_12 rfl (by omega) (by omega) ?_
      refine ga_istore (lv2 := [_, _, _, _, _]) dX5_pairsUsed_13 (by decide) rfl rfl ?_
      refine ga_aload_n dX5_pairsUsed_15 rfl ?_
      refine hg_getR grX5_70 dX5_pairsUsed_16 rfl rfl ?_
      refine ga_iload_n dX5_pairsUsed_19 rfl ?_
      refine hg_zald dX5_pairsUsed_20 rfl (by omega) (by omega) ?_
      refine ga_if_ne (tgt := 27) dX5_pairsUsed_21 rfl (fun c_21 => ?_) (fun c_21 => ?_)
      · refine ga_iload dX5_pairsUsed_27 rfl ?_
        refine ga_iconst dX5_pairsUsed_29 ⟨by decide, by decide⟩ ?_
        refine ga_icmp_eq (tgt := 59) dX5_pairsUsed_30 rfl (fun c_30 => ?_) (fun c_30 => ?_)
        · refine ga_iconst dX5_pairsUsed_59 ⟨by decide, by decide⟩ ?_
          refine ga_ret (v := some _) ?_ rfl (by decide) (by decide) ⟨dX5_pairsUsed_60, _, rfl, rfl⟩
          exact ⟨tvf (fun w => (w i (by omega) (by omega) c_21).1 c_30), rfl⟩
        · refine ga_aload_n dX5_pairsUsed_33 rfl ?_
          refine hg_getR grX5_70 dX5_pairsUsed_34 rfl rfl ?_
          refine ga_iload dX5_pairsUsed_37 rfl ?_
          refine hg_zald dX5_pairsUsed_39 rfl (by omega) (by omega) ?_
          refine ga_if_eq (tgt := 59) dX5_pairsUsed_40 rfl (fun c_40 => ?_) (fun c_40 => ?_)
          · refine ga_iconst dX5_pairsUsed_59 ⟨by decide, by decide⟩ ?_
            refine ga_ret (v := some _) ?_ rfl (by decide) (by decide) ⟨dX5_pairsUsed_60, _, rfl, rfl⟩
            exact ⟨tvf (fun w => (w i (by omega) (by omega) c_21).2.1 c_40), rfl⟩
          · refine ga_aload_n dX5_pairsUsed_43 rfl ?_
            refine hg_getR grX5_73 dX5_pairsUsed_44 rfl rfl ?_
            refine ga_iload_n dX5_pairsUsed_47 rfl ?_
            refine hg_iald dX5_pairsUsed_48 rfl (by omega) (by omega) ?_
            refine ga_aload_n dX5_pairsUsed_49 rfl ?_
            refine hg_getR grX5_73 dX5_pairsUsed_50 rfl rfl ?_
            refine ga_iload dX5_pairsUsed_53 rfl ?_
            refine hg_iald dX5_pairsUsed_55 rfl (by omega) (by omega) ?_
            refine ga_icmp_eq (tgt := 61) dX5_pairsUsed_56 rfl (fun c_56 => ?_) (fun c_56 => ?_)
            · exact GO (fun _ => ⟨c_30, c_40, c_56⟩) _
            · refine ga_iconst dX5_pairsUsed_59 ⟨by decide, by decide⟩ ?_
              refine ga_ret (v := some _) ?_ rfl (by decide) (by decide) ⟨dX5_pairsUsed_60, _, rfl, rfl⟩
              exact ⟨tvf (fun w => c_56 (w i (by omega) (by omega) c_21).2.2), rfl⟩
      · refine ga_goto (tgt := 61) dX5_pairsUsed_24 rfl ?_
        exact GO (fun w => absurd c_21 w) _
noncomputable def pnO (pins kind grp : Int → Int) (d g n : Int) : Int := sz (fun k => tv (pins (d * 4 + k) = n ∧ grp (kind d * 4 + k) = g)) 4
/-- the pair of device d agrees -/
def paP (σ : ga_S) (d : Int) : Prop := dcg (FP.dsub (sgr (σ.2 6 d) (σ.2 13 (σ.1 56 d))) (sls (σ.2 6 d) (σ.2 13 (σ.1 56 d)))) (FP.dmul (σ.2 18 (σ.1 5 d)) (sgr (σ.2 6 d) (σ.2 13 (σ.1 56 d)))) ≤ 0 ∧ ∀ k : Int, 0 ≤ k → k < 4 → pnO (σ.1 8) (σ.1 5) (σ.1 17) d (σ.1 17 (σ.1 5 d * 4 + k)) (σ.1 8 (d * 4 + k)) = pnO (σ.1 15) (σ.1 12) (σ.1 17) (σ.1 56 d) (σ.1 17 (σ.1 5 d * 4 + k)) (if σ.1 8 (d * 4 + k) = -1 then -1 else σ.1 58 (σ.1 8 (d * 4 + k)))
theorem T_X5_pairAgrees (d : Int) (σ : ga_S) (h1 : 0 ≤ d) (h2 : d < 30) (hk : 0 ≤ σ.1 5 d ∧ σ.1 5 d < 8) (hq : 0 ≤ σ.1 56 d ∧ σ.1 56 d < 30) (hk2 : 0 ≤ σ.1 12 (σ.1 56 d) ∧ σ.1 12 (σ.1 56 d) < 8) (hp : ∀ k : Int, 0 ≤ k → k < 4 → -1 ≤ σ.1 8 (d * 4 + k) ∧ σ.1 8 (d * 4 + k) < 40) (n1 : vf_n64 (FP.dsub (sgr (σ.2 6 d) (σ.2 13 (σ.1 56 d))) (sls (σ.2 6 d) (σ.2 13 (σ.1 56 d))))) (n2 : vf_n64 (FP.dmul (σ.2 18 (σ.1 5 d)) (sgr (σ.2 6 d) (σ.2 13 (σ.1 56 d))))) : ga_Mt 2 0 0 mX5_pairAgrees [Vr 55, Vr 1, Vi d] (HP σ) (gis (some (Vi (tv (paP σ d)))) σ) ga_nox := by
  refine ga_meth [some (Vr 55), some (Vr 1), some (Vi d), none, none, none, none, none, none, none, none] rfl rfl (by decide +kernel) (Nat.le_of_ble_eq_true rfl) rfl ?_
  refine ga_aload_n dX5_pairAgrees_0 rfl ?_
  refine hg_getR grX5_37 dX5_pairAgrees_1 rfl rfl ?_
  refine ga_astore_n (lv2 := [_, _, _, _, _, _, _, _, _, _, _]) dX5_pairAgrees_4 (by decide) rfl rfl ?_
  refine ga_aload_n dX5_pairAgrees_5 rfl ?_
  refine hg_getR grX5_43 dX5_pairAgrees_6 rfl rfl ?_
  refine ga_astore (lv2 := [_, _, _, _, _, _, _, _, _, _, _]) dX5_pairAgrees_9 (by decide) rfl rfl ?_
  refine ga_aload_n dX5_pairAgrees_11 rfl ?_
  refine hg_getR grX5_15 dX5_pairAgrees_12 rfl rfl ?_
  refine ga_iload_n dX5_pairAgrees_15 rfl ?_
  refine hg_iald dX5_pairAgrees_16 rfl (by omega) (by omega) ?_
  refine ga_istore (lv2 := [_, _, _, _, _, _, _, _, _, _, _]) dX5_pairAgrees_17 (by decide) rfl rfl ?_
  refine ga_aload_n dX5_pairAgrees_19 rfl ?_
  refine hg_getR grX5_80 dX5_pairAgrees_20 rfl rfl ?_
  refine ga_iload_n dX5_pairAgrees_23 rfl ?_
  refine hg_iald dX5_pairAgrees_24 rfl (by omega) (by omega) ?_
  refine ga_istore (lv2 := [_, _, _, _, _, _, _, _, _, _, _]) dX5_pairAgrees_25 (by decide) rfl rfl ?_
  refine ga_aload_n dX5_pairAgrees_27 rfl ?_
  refine hg_getR grX5_83 dX5_pairAgrees_28 rfl rfl ?_
  refine ga_iload dX5_pairAgrees_31 rfl ?_
  refine ga_aload_n dX5_pairAgrees_33 rfl ?_
  refine hg_getR grX5_87 dX5_pairAgrees_34 rfl rfl ?_
  refine ga_iload_n dX5_pairAgrees_37 rfl ?_
  refine hg_dald dX5_pairAgrees_38 rfl (by omega) (by omega) ?_
  refine ga_aload dX5_pairAgrees_39 rfl ?_
  refine hg_getR grX5_87 dX5_pairAgrees_41 rfl rfl ?_
  refine ga_iload dX5_pairAgrees_44 rfl ?_
  refine hg_dald dX5_pairAgrees_46 rfl (by omega) (by omega) ?_
  refine hc_V (T_X4_sizesAgree (σ.1 5 d) _ _ σ hk.1 hk.2 n1 n2) fX4_sizesAgree rfl kX4_sizesAgree lkX5_91 dX5_pairAgrees_47 rfl rfl rfl rfl rfl rfl rfl rfl ?_
  refine ga_if_ne (tgt := 55) dX5_pairAgrees_50 rfl (fun c_50 => ?_) (fun c_50 => ?_)
  · rw [tv_ne0] at c_50
    refine ga_iconst dX5_pairAgrees_55 ⟨by decide, by decide⟩ ?_
    refine ga_istore (lv2 := [_, _, _, _, _, _, _, _, _, _, _]) dX5_pairAgrees_56 (by decide) rfl rfl ?_
    refine (ga_loop 4 (fun i => ∀ y z w, (∀ k : Int, 0 ≤ k → k < i → pnO (σ.1 8) (σ.1 5) (σ.1 17) d (σ.1 17 (σ.1 5 d * 4 + k)) (σ.1 8 (d * 4 + k)) = pnO (σ.1 15) (σ.1 12) (σ.1 17) (σ.1 56 d) (σ.1 17 (σ.1 5 d * 4 + k)) (if σ.1 8 (d * 4 + k) = -1 then -1 else σ.1 58 (σ.1 8 (d * 4 + k)))) → ga_W 2 0 0 0 0 mX5_pairAgrees (gis (some (Vi (tv (paP σ d)))) σ) ga_nox 58 [some (Vr 55), some (Vr 1), some (Vi d), some (Vr 2), some (Vr 9), some (Vi (σ.1 56 d)), some (Vi (σ.1 5 d)), some (Vi (i : Int)), y, z, w] [] (HP σ)) ?_ ?_ 0 (Nat.zero_le _) none none none (fun k a b => by omega) : _)
    · intro y z w h
      refine ga_iload dX5_pairAgrees_58 rfl ?_
      refine ga_iconst dX5_pairAgrees_60 ⟨by decide, by decide⟩ ?_
      refine ga_icmp_ge (tgt := 144) dX5_pairAgrees_61 rfl (fun c_61 => ?_) (fun c_61 => ?_)
      · refine ga_iconst dX5_pairAgrees_144 ⟨by decide, by decide⟩ ?_
        refine ga_ret (v := some _) ?_ rfl (by decide) (by decide) ⟨dX5_pairAgrees_145, _, rfl, rfl⟩
        exact ⟨tvt ⟨c_50, h⟩, rfl⟩
      · omega
    · intro i hi k y z w h
      have p := hp i (by omega) (by omega)
      have TAIL : ∀ (o : Int) w, o = (if σ.1 8 (d * 4 + (i : Int)) = -1 then -1 else σ.1 58 (σ.1 8 (d * 4 + (i : Int)))) → ga_W 2 0 0 0 0 mX5_pairAgrees (gis (some (Vi (tv (paP σ d)))) σ) ga_nox 103 [some (Vr 55), some (Vr 1), some (Vi d), some (Vr 2), some (Vr 9), some (Vi (σ.1 56 d)), some (Vi (σ.1 5 d)), some (Vi (i : Int)), some (Vi (σ.1 17 (σ.1 5 d * 4 + (i : Int)))), some (Vi (σ.1 8 (d * 4 + (i : Int)))), w] [Vi o] (HP σ) := by
        intro o w ho
        refine ga_istore (lv2 := [_, _, _, _, _, _, _, _, _, _, _]) dX5_pairAgrees_103 (by decide) rfl rfl ?_
        refine ga_aload_n dX5_pairAgrees_105 rfl ?_
        refine hg_getR grX5_83 dX5_pairAgrees_106 rfl rfl ?_
        refine ga_aload_n dX5_pairAgrees_109 rfl ?_
        refine ga_iload_n dX5_pairAgrees_110 rfl ?_
        refine ga_iload dX5_pairAgrees_111 rfl ?_
        refine ga_iload dX5_pairAgrees_113 rfl ?_
        refine hc_V (T_X4_pinsOn_2 d _ _ σ h1 h2 hk.1 hk.2) fX4_pinsOn rfl kX4_pinsOn lkX5_104 dX5_pairAgrees_115 rfl rfl rfl rfl rfl rfl rfl rfl ?_
        refine ga_aload_n dX5_pairAgrees_118 rfl ?_
        refine hg_getR grX5_83 dX5_pairAgrees_119 rfl rfl ?_
        refine ga_aload dX5_pairAgrees_122 rfl ?_
        refine ga_iload dX5_pairAgrees_124 rfl ?_
        refine ga_iload dX5_pairAgrees_126 rfl ?_
        refine ga_iload dX5_pairAgrees_128 rfl ?_
        refine hc_V (T_X4_pinsOn_9 (σ.1 56 d) _ _ σ hq.1 hq.2 hk2.1 hk2.2) fX4_pinsOn rfl kX4_pinsOn lkX5_104 dX5_pairAgrees_130 rfl rfl rfl rfl rfl rfl rfl rfl ?_
        refine ga_icmp_eq (tgt := 138) dX5_pairAgrees_133 rfl (fun c_133 => ?_) (fun c_133 => ?_)
        · rw [ho] at c_133
          refine ga_iinc (z := ((i + 1 : Nat) : Int)) (lv2 := [_, _, _, _, _, _, _, _, _, _, _]) dX5_pairAgrees_138 (by decide) rfl rfl (by omega) (⟨by omega, by omega⟩) rfl ?_
          refine ga_goto (tgt := 58) dX5_pairAgrees_141 rfl ?_
          refine k _ _ _ (fun j a b => ?_)
          rcases Int.lt_or_le j i with q | q
          · exact h j a q
          · rw [show j = i by omega]
            exact c_133
        · rw [ho] at c_133
          refine ga_iconst dX5_pairAgrees_136 ⟨by decide, by decide⟩ ?_
          refine ga_ret (v := some _) ?_ rfl (by decide) (by decide) ⟨dX5_pairAgrees_137, _, rfl, rfl⟩
          exact ⟨tvf (fun q => c_133 (q.2 i (by omega) (by omega))), rfl⟩
      refine ga_iload dX5_pairAgrees_58 rfl ?_
      refine ga_iconst dX5_pairAgrees_60 ⟨by decide, by decide⟩ ?_
      refine ga_icmp_ge (tgt := 144) dX5_pairAgrees_61 rfl (fun c_61 => ?_) (fun c_61 => ?_)
      · omega
      · refine ga_aload_n dX5_pairAgrees_64 rfl ?_
        refine hg_getR grX5_83 dX5_pairAgrees_65 rfl rfl ?_
        refine ga_iload dX5_pairAgrees_68 rfl ?_
        refine ga_iload dX5_pairAgrees_70 rfl ?_
        refine hc_V (T_X4_groupOf (σ.1 5 d) i σ hk.1 hk.2 (by omega) (by omega)) fX4_groupOf rfl kX4_groupOf lkX5_97 dX5_pairAgrees_72 rfl rfl rfl rfl rfl rfl rfl rfl ?_
        refine ga_istore (lv2 := [_, _, _, _, _, _, _, _, _, _, _]) dX5_pairAgrees_75 (by decide) rfl rfl ?_
        refine ga_aload_n dX5_pairAgrees_77 rfl ?_
        refine ga_iload_n dX5_pairAgrees_78 rfl ?_
        refine ga_iload dX5_pairAgrees_79 rfl ?_
        refine hc_V (T_X9_netOf_2 d i σ h1 h2 (by omega) (by omega)) fX9_netOf rfl kX9_netOf lkX5_101 dX5_pairAgrees_81 rfl rfl rfl rfl rfl rfl rfl rfl ?_
        refine ga_istore (lv2 := [_, _, _, _, _, _, _, _, _, _, _]) dX5_pairAgrees_84 (by decide) rfl rfl ?_
        refine ga_iload dX5_pairAgrees_86 rfl ?_
        refine ga_iconst dX5_pairAgrees_88 ⟨by decide, by decide⟩ ?_
        refine ga_icmp_ne (tgt := 96) dX5_pairAgrees_89 rfl (fun c_89 => ?_) (fun c_89 => ?_)
        · refine ga_aload_n dX5_pairAgrees_96 rfl ?_
          refine hg_getR grX5_22 dX5_pairAgrees_97 rfl rfl ?_
          refine ga_iload dX5_pairAgrees_100 rfl ?_
          refine hg_iald dX5_pairAgrees_102 rfl (by omega) (by omega) ?_
          exact TAIL _ _ (by rw [if_neg c_89])
        · refine ga_iconst dX5_pairAgrees_92 ⟨by decide, by decide⟩ ?_
          refine ga_goto (tgt := 103) dX5_pairAgrees_93 rfl ?_
          exact TAIL _ _ (by rw [if_pos c_89])
  · rw [tv_eq0] at c_50
    refine ga_iconst dX5_pairAgrees_53 ⟨by decide, by decide⟩ ?_
    refine ga_ret (v := some _) ?_ rfl (by decide) (by decide) ⟨dX5_pairAgrees_54, _, rfl, rfl⟩
    exact ⟨tvf (fun q => c_50 q.1), rfl⟩
