-- Classes: divide
noncomputable def cmN (C gone : Int → Int) (i : Int) (e : Nat) (p : Int) : Int := sz (fun d => tv (gone d = 0 ∧ C (i * 30 + d) = p)) e
noncomputable def cmF (C gone : Int → Int) (i : Int) (old : Int → Int) (e : Nat) : Int → Int := fun j => if 0 ≤ j ∧ j < 60 then cmN C gone i e j else old j
theorem cmN_s (C gone : Int → Int) (i : Int) (e : Nat) (p : Int) : cmN C gone i (e + 1) p = cmN C gone i e p + tv (gone e = 0 ∧ C (i * 30 + e) = p) := rfl
theorem cmN_b (C gone : Int → Int) (i : Int) (e : Nat) (p : Int) : 0 ≤ cmN C gone i e p ∧ cmN C gone i e p ≤ e := sz_b (fun _ => tv_le)
theorem cmF_no {C gone old : Int → Int} {i : Int} {e : Nat} (h : ¬ gone e = 0) : cmF C gone i old (e + 1) = cmF C gone i old e := by
  funext j
  unfold cmF
  split
  · rw [cmN_s, tvz (fun z => h z.1), Int.add_zero]
  · rfl
theorem cmF_yes {C gone old : Int → Int} {i : Int} {e : Nat} (h : gone e = 0) (h2 : 0 ≤ C (i * 30 + e) ∧ C (i * 30 + e) < 60) : ga_up (cmF C gone i old e) (C (i * 30 + e)) (cmF C gone i old e (C (i * 30 + e)) + 1) = cmF C gone i old (e + 1) := by
  funext j
  unfold ga_up
  split
  · rename_i hj
    unfold cmF
    rw [if_pos h2, if_pos (by omega), hj, cmN_s, tv1 ⟨h, rfl⟩]
  · rename_i hj
    unfold cmF
    split
    · rw [cmN_s, tvz (fun z => hj z.2.symm), Int.add_zero]
    · rfl
theorem T_X0_classOf (s d : Int) (σ : ga_S) (h0 : 0 ≤ s) (h3 : s < 2) (h1 : 0 ≤ s * 30 + d) (h2 : s * 30 + d < 60) (h4 : 0 ≤ d) : ga_Mt 0 0 0 mX0_classOf [Vr 21, Vi s, Vi d] (HP σ) (gis (some (Vi (σ.1 23 (s * 30 + d)))) σ) ga_nox := by
  refine ga_meth [some (Vr 21), some (Vi s), some (Vi d)] rfl rfl (by decide +kernel) (Nat.le_of_ble_eq_true rfl) rfl ?_
  refine ga_aload_n dX0_classOf_0 rfl ?_
  refine hg_getR grX0_14 dX0_classOf_1 rfl rfl ?_
  refine hg_getR grX0_55 dX0_classOf_4 rfl rfl ?_
  refine ga_iload_n dX0_classOf_7 rfl ?_
  refine ga_bipush dX0_classOf_8 ⟨by decide, by decide⟩ (by decide) ?_
  refine ga_imul dX0_classOf_10 rfl (⟨by omega, by omega⟩) ?_
  refine ga_iload_n dX0_classOf_11 rfl ?_
  refine ga_iadd dX0_classOf_12 rfl (⟨by omega, by omega⟩) ?_
  refine hg_iald dX0_classOf_13 rfl (by omega) (by omega) ?_
  refine ga_ret (v := some _) ?_ rfl (by decide) (by decide) ⟨dX0_classOf_14, _, rfl, rfl⟩
  exact ⟨rfl, rfl⟩
theorem T_X0_alikeOnFirstSide (σ : ga_S) (D : Nat) (hD : σ.1 2 3 = D) (hD2 : D ≤ 30) (hC : ∀ d : Int, 0 ≤ d → d < D → σ.1 7 d = 0 → 0 ≤ σ.1 23 (0 * 30 + d) ∧ σ.1 23 (0 * 30 + d) < 60) : ga_Mt 1 0 0 mX0_alikeOnFirstSide [Vr 21, Vr 2] (HP σ) (gis (some (Vi (sz (fun d => tv (σ.1 7 d = 0 ∧ 1 < σ.1 36 (σ.1 23 (0 * 30 + d)))) D))) σ) ga_nox := by
  refine ga_meth [some (Vr 21), some (Vr 2), none, none] rfl rfl (by decide +kernel) (Nat.le_of_ble_eq_true rfl) rfl ?_
  refine ga_iconst dX0_alikeOnFirstSide_0 ⟨by decide, by decide⟩ ?_
  refine ga_istore_n (lv2 := [_, _, _, _]) dX0_alikeOnFirstSide_1 (by decide) rfl rfl ?_
  refine ga_iconst dX0_alikeOnFirstSide_2 ⟨by decide, by decide⟩ ?_
  refine ga_istore_n (lv2 := [_, _, _, _]) dX0_alikeOnFirstSide_3 (by decide) rfl rfl ?_
  have hb := fun n : Nat => sz_b (f := fun d => tv (σ.1 7 d = 0 ∧ 1 < σ.1 36 (σ.1 23 (0 * 30 + d)))) (fun _ => tv_le) (n := n)
  refine (ga_loop D (fun i => ga_W 1 0 0 0 0 mX0_alikeOnFirstSide (gis (some (Vi (sz (fun d => tv (σ.1 7 d = 0 ∧ 1 < σ.1 36 (σ.1 23 (0 * 30 + d)))) D))) σ) ga_nox 4 [some (Vr 21), some (Vr 2), some (Vi (sz (fun d => tv (σ.1 7 d = 0 ∧ 1 < σ.1 36 (σ.1 23 (0 * 30 + d)))) i)), some (Vi (i : Int))] [] (HP σ)) ?_ ?_ 0 (Nat.zero_le _) : _)
  · refine ga_iload_n dX0_alikeOnFirstSide_4 rfl ?_
    refine ga_aload_n dX0_alikeOnFirstSide_5 rfl ?_
    refine hg_getI 3 grX0_58 dX0_alikeOnFirstSide_6 rfl rfl rfl ?_
    refine ga_icmp_ge (tgt := 45) dX0_alikeOnFirstSide_9 rfl (fun c_9 => ?_) (fun c_9 => ?_)
    · refine ga_iload_n dX0_alikeOnFirstSide_45 rfl ?_
      refine ga_ret (v := some _) ?_ rfl (by decide) (by decide) ⟨dX0_alikeOnFirstSide_46, _, rfl, rfl⟩
      exact ⟨rfl, rfl⟩
    · omega
  · intro i hi k
    have h5 := hb i
    simp only [sz_s _ i] at k
    refine ga_iload_n dX0_alikeOnFirstSide_4 rfl ?_
    refine ga_aload_n dX0_alikeOnFirstSide_5 rfl ?_
    refine hg_getI 3 grX0_58 dX0_alikeOnFirstSide_6 rfl rfl rfl ?_
    refine ga_icmp_ge (tgt := 45) dX0_alikeOnFirstSide_9 rfl (fun c_9 => ?_) (fun c_9 => ?_)
    · omega
    · refine ga_aload_n dX0_alikeOnFirstSide_12 rfl ?_
      refine hg_getR grX0_63 dX0_alikeOnFirstSide_13 rfl rfl ?_
      refine ga_iload_n dX0_alikeOnFirstSide_16 rfl ?_
      refine hg_zald dX0_alikeOnFirstSide_17 rfl (by omega) (by omega) ?_
      refine ga_if_ne (tgt := 39) dX0_alikeOnFirstSide_18 rfl (fun c_18 => ?_) (fun c_18 => ?_)
      · rw [tvz (fun z => c_18 z.1), Int.add_zero] at k
        refine ga_iinc (z := ((i + 1 : Nat) : Int)) (lv2 := [_, _, _, _]) dX0_alikeOnFirstSide_39 (by decide) rfl rfl (by omega) (⟨by omega, by omega⟩) rfl ?_
        refine ga_goto (tgt := 4) dX0_alikeOnFirstSide_42 rfl ?_
        exact k
      · have hc := hC i (by omega) (by omega) c_18
        refine ga_aload_n dX0_alikeOnFirstSide_21 rfl ?_
        refine hg_getR grX0_27 dX0_alikeOnFirstSide_22 rfl rfl ?_
        refine ga_aload_n dX0_alikeOnFirstSide_25 rfl ?_
        refine ga_iconst dX0_alikeOnFirstSide_26 ⟨by decide, by decide⟩ ?_
        refine ga_iload_n dX0_alikeOnFirstSide_27 rfl ?_
        refine hc_V (T_X0_classOf 0 i σ (by decide) (by decide) (by omega) (by omega) (by omega)) fX0_classOf rfl kX0_classOf lkX0_67 dX0_alikeOnFirstSide_28 rfl rfl rfl rfl rfl rfl rfl rfl ?_
        refine hg_iald dX0_alikeOnFirstSide_31 rfl (by omega) (by omega) ?_
        refine ga_iconst dX0_alikeOnFirstSide_32 ⟨by decide, by decide⟩ ?_
        refine ga_icmp_le (tgt := 39) dX0_alikeOnFirstSide_33 rfl (fun c_33 => ?_) (fun c_33 => ?_)
        · rw [tvz (fun z => by omega), Int.add_zero] at k
          refine ga_iinc (z := ((i + 1 : Nat) : Int)) (lv2 := [_, _, _, _]) dX0_alikeOnFirstSide_39 (by decide) rfl rfl (by omega) (⟨by omega, by omega⟩) rfl ?_
          refine ga_goto (tgt := 4) dX0_alikeOnFirstSide_42 rfl ?_
          exact k
        · rw [tv1 ⟨c_18, by omega⟩] at k
          refine ga_iinc (lv2 := [_, _, _, _]) dX0_alikeOnFirstSide_36 (by decide) rfl rfl rfl (⟨by omega, by omega⟩) rfl ?_
          refine ga_iinc (z := ((i + 1 : Nat) : Int)) (lv2 := [_, _, _, _]) dX0_alikeOnFirstSide_39 (by decide) rfl rfl (by omega) (⟨by omega, by omega⟩) rfl ?_
          refine ga_goto (tgt := 4) dX0_alikeOnFirstSide_42 rfl ?_
          exact k
theorem T_X0_countMembers_2 (σ : ga_S) (D : Nat) (hD : σ.1 2 3 = D) (hD2 : D ≤ 30) (hC : ∀ d : Int, 0 ≤ d → d < D → σ.1 7 d = 0 → 0 ≤ σ.1 23 (0 * 30 + d) ∧ σ.1 23 (0 * 30 + d) < 60) : ga_Mt 1 0 0 mX0_countMembers [Vr 21, Vr 2, Vi 0, Vr 36] (HP σ) (gis none (stI σ 36 (cmF (σ.1 23) (σ.1 7) 0 (σ.1 36) D))) ga_nox := by
  refine ga_meth [some (Vr 21), some (Vr 2), some (Vi 0), some (Vr 36), none] rfl rfl (by decide +kernel) (Nat.le_of_ble_eq_true rfl) rfl ?_
  refine ga_aload_n dX0_countMembers_0 rfl ?_
  refine ga_iconst dX0_countMembers_1 ⟨by decide, by decide⟩ ?_
  refine hc_Sv (T_J7_fill rfl (by decide)) fJ7_fill_53178 rfl kJ7_fill_53178 lkX0_118 dX0_countMembers_2 rfl rfl rfl rfl rfl rfl ?_
  have e0 : fillF (σ.1 36) ((60 : Nat) : Int) 0 = cmF (σ.1 23) (σ.1 7) 0 (σ.1 36) 0 := by
    funext j; unfold fillF cmF; rfl
  rw [e0]
  refine ga_iconst dX0_countMembers_5 ⟨by decide, by decide⟩ ?_
  refine ga_istore (lv2 := [_, _, _, _, _]) dX0_countMembers_6 (by decide) rfl rfl ?_
  refine (ga_loop D (fun d => ga_W 1 0 0 0 0 mX0_countMembers (gis none (stI σ 36 (cmF (σ.1 23) (σ.1 7) 0 (σ.1 36) D))) ga_nox 8 [some (Vr 21), some (Vr 2), some (Vi 0), some (Vr 36), some (Vi (d : Int))] [] (HP (stI σ 36 (cmF (σ.1 23) (σ.1 7) 0 (σ.1 36) d)))) ?_ ?_ 0 (Nat.zero_le _) : _)
  · have hD9 : (stI σ 36 (cmF (σ.1 23) (σ.1 7) 0 (σ.1 36) D)).1 2 3 = D := hD
    refine ga_iload dX0_countMembers_8 rfl ?_
    refine ga_aload_n dX0_countMembers_10 rfl ?_
    refine hg_getI 3 grX0_58 dX0_countMembers_11 rfl rfl rfl ?_
    refine ga_icmp_ge (tgt := 46) dX0_countMembers_14 rfl (fun c_14 => ?_) (fun c_14 => ?_)
    · refine ga_ret (v := none) ?_ rfl (by decide) (by decide) ⟨dX0_countMembers_46, rfl⟩
      exact ⟨rfl, rfl⟩
    · omega
  · intro d hd k
    have hD9 : (stI σ 36 (cmF (σ.1 23) (σ.1 7) 0 (σ.1 36) d)).1 2 3 = D := hD
    refine ga_iload dX0_countMembers_8 rfl ?_
    refine ga_aload_n dX0_countMembers_10 rfl ?_
    refine hg_getI 3 grX0_58 dX0_countMembers_11 rfl rfl rfl ?_
    refine ga_icmp_ge (tgt := 46) dX0_countMembers_14 rfl (fun c_14 => ?_) (fun c_14 => ?_)
    · omega
    · refine ga_aload_n dX0_countMembers_17 rfl ?_
      refine hg_getR grX0_63 dX0_countMembers_18 rfl rfl ?_
      refine ga_iload dX0_countMembers_21 rfl ?_
      refine hg_zald dX0_countMembers_23 rfl (by omega) (by omega) ?_
      refine ga_if_ne (tgt := 40) dX0_countMembers_24 rfl (fun c_24 => ?_) (fun c_24 => ?_)
      · have c9 : ¬ σ.1 7 (d : Int) = 0 := c_24
        rw [cmF_no c9] at k
        refine ga_iinc (z := ((d + 1 : Nat) : Int)) (lv2 := [_, _, _, _, _]) dX0_countMembers_40 (by decide) rfl rfl (by omega) (⟨by omega, by omega⟩) rfl ?_
        refine ga_goto (tgt := 8) dX0_countMembers_43 rfl ?_
        exact k
      · have c9 : σ.1 7 (d : Int) = 0 := c_24
        have hc := hC d (by omega) (by omega) c9
        have hb := cmN_b (σ.1 23) (σ.1 7) 0 d (σ.1 23 (0 * 30 + d))
        have e7 : (stI σ 36 (cmF (σ.1 23) (σ.1 7) 0 (σ.1 36) d)).1 23 (0 * 30 + (d : Int)) = σ.1 23 (0 * 30 + (d : Int)) := rfl
        have e6 : cmF (σ.1 23) (σ.1 7) 0 (σ.1 36) d (σ.1 23 (0 * 30 + (d : Int))) = cmN (σ.1 23) (σ.1 7) 0 d (σ.1 23 (0 * 30 + (d : Int))) := if_pos hc
        refine ga_aload_n dX0_countMembers_27 rfl ?_
        refine ga_aload_n dX0_countMembers_28 rfl ?_
        refine ga_iload_n dX0_countMembers_29 rfl ?_
        refine ga_iload dX0_countMembers_30 rfl ?_
        refine hc_V (T_X0_classOf 0 d _ (by decide) (by decide) (by omega) (by omega) (by omega)) fX0_classOf rfl kX0_classOf lkX0_67 dX0_countMembers_32 rfl rfl rfl rfl rfl rfl rfl rfl ?_
        rw [e7]
        refine ga_dup2 dX0_countMembers_35 rfl rfl ?_
        refine hg_iald dX0_countMembers_36 rfl (by omega) (by omega) ?_
        rw [stI_at, e6]
        refine ga_iconst dX0_countMembers_37 ⟨by decide, by decide⟩ ?_
        refine ga_iadd dX0_countMembers_38 rfl (⟨by omega, by omega⟩) ?_
        refine hg_iast dX0_countMembers_39 rfl (by omega) (by omega) ?_
        rw [← e6, stI_at, stI_st, cmF_yes c9 hc]
        refine ga_iinc (z := ((d + 1 : Nat) : Int)) (lv2 := [_, _, _, _, _]) dX0_countMembers_40 (by decide) rfl rfl (by omega) (⟨by omega, by omega⟩) rfl ?_
        refine ga_goto (tgt := 8) dX0_countMembers_43 rfl ?_
        exact k
theorem T_X0_countMembers_9 (σ : ga_S) (D : Nat) (hD : σ.1 9 3 = D) (hD2 : D ≤ 30) (hC : ∀ d : Int, 0 ≤ d → d < D → σ.1 14 d = 0 → 0 ≤ σ.1 23 (1 * 30 + d) ∧ σ.1 23 (1 * 30 + d) < 60) : ga_Mt 1 0 0 mX0_countMembers [Vr 21, Vr 9, Vi 1, Vr 37] (HP σ) (gis none (stI σ 37 (cmF (σ.1 23) (σ.1 14) 1 (σ.1 37) D))) ga_nox := by
  refine ga_meth [some (Vr 21), some (Vr 9), some (Vi 1), some (Vr 37), none] rfl rfl (by decide +kernel) (Nat.le_of_ble_eq_true rfl) rfl ?_
  refine ga_aload_n dX0_countMembers_0 rfl ?_
  refine ga_iconst dX0_countMembers_1 ⟨by decide, by decide⟩ ?_
  refine hc_Sv (T_J7_fill rfl (by decide)) fJ7_fill_53178 rfl kJ7_fill_53178 lkX0_118 dX0_countMembers_2 rfl rfl rfl rfl rfl rfl ?_
  have e0 : fillF (σ.1 37) ((60 : Nat) : Int) 0 = cmF (σ.1 23) (σ.1 14) 1 (σ.1 37) 0 := by
    funext j; unfold fillF cmF; rfl
  rw [e0]
  refine ga_iconst dX0_countMembers_5 ⟨by decide, by decide⟩ ?_
  refine ga_istore (lv2 := [_, _, _, _, _]) dX0_countMembers_6 (by decide) rfl rfl ?_
  refine (ga_loop D (fun d => ga_W 1 0 0 0 0 mX0_countMembers (gis none (stI σ 37 (cmF (σ.1 23) (σ.1 14) 1 (σ.1 37) D))) ga_nox 8 [some (Vr 21), some (Vr 9), some (Vi 1), some (Vr 37), some (Vi (d : Int))] [] (HP (stI σ 37 (cmF (σ.1 23) (σ.1 14) 1 (σ.1 37) d)))) ?_ ?_ 0 (Nat.zero_le _) : _)
  · have hD9 : (stI σ 37 (cmF (σ.1 23) (σ.1 14) 1 (σ.1 37) D)).1 9 3 = D := hD
    refine ga_iload dX0_countMembers_8 rfl ?_
    refine ga_aload_n dX0_countMembers_10 rfl ?_
    refine hg_getI 3 grX0_58 dX0_countMembers_11 rfl rfl rfl ?_
    refine ga_icmp_ge (tgt := 46) dX0_countMembers_14 rfl (fun c_14 => ?_) (fun c_14 => ?_)
    · refine ga_ret (v := none) ?_ rfl (by decide) (by decide) ⟨dX0_countMembers_46, rfl⟩
      exact ⟨rfl, rfl⟩
    · omega
  · intro d hd k
    have hD9 : (stI σ 37 (cmF (σ.1 23) (σ.1 14) 1 (σ.1 37) d)).1 9 3 = D := hD
    refine ga_iload dX0_countMembers_8 rfl ?_
    refine ga_aload_n dX0_countMembers_10 rfl ?_
    refine hg_getI 3 grX0_58 dX0_countMembers_11 rfl rfl rfl ?_
    refine ga_icmp_ge (tgt := 46) dX0_countMembers_14 rfl (fun c_14 => ?_) (fun c_14 => ?_)
    · omega
    · refine ga_aload_n dX0_countMembers_17 rfl ?_
      refine hg_getR grX0_63 dX0_countMembers_18 rfl rfl ?_
      refine ga_iload dX0_countMembers_21 rfl ?_
      refine hg_zald dX0_countMembers_23 rfl (by omega) (by omega) ?_
      refine ga_if_ne (tgt := 40) dX0_countMembers_24 rfl (fun c_24 => ?_) (fun c_24 => ?_)
      · have c9 : ¬ σ.1 14 (d : Int) = 0 := c_24
        rw [cmF_no c9] at k
        refine ga_iinc (z := ((d + 1 : Nat) : Int)) (lv2 := [_, _, _, _, _]) dX0_countMembers_40 (by decide) rfl rfl (by omega) (⟨by omega, by omega⟩) rfl ?_
        refine ga_goto (tgt := 8) dX0_countMembers_43 rfl ?_
        exact k
      · have c9 : σ.1 14 (d : Int) = 0 := c_24
        have hc := hC d (by omega) (by omega) c9
        have hb := cmN_b (σ.1 23) (σ.1 14) 1 d (σ.1 23 (1 * 30 + d))
        have e7 : (stI σ 37 (cmF (σ.1 23) (σ.1 14) 1 (σ.1 37) d)).1 23 (1 * 30 + (d : Int)) = σ.1 23 (1 * 30 + (d : Int)) := rfl
        have e6 : cmF (σ.1 23) (σ.1 14) 1 (σ.1 37) d (σ.1 23 (1 * 30 + (d : Int))) = cmN (σ.1 23) (σ.1 14) 1 d (σ.1 23 (1 * 30 + (d : Int))) := if_pos hc
        refine ga_aload_n dX0_countMembers_27 rfl ?_
        refine ga_aload_n dX0_countMembers_28 rfl ?_
        refine ga_iload_n dX0_countMembers_29 rfl ?_
        refine ga_iload dX0_countMembers_30 rfl ?_
        refine hc_V (T_X0_classOf 1 d _ (by decide) (by decide) (by omega) (by omega) (by omega)) fX0_classOf rfl kX0_classOf lkX0_67 dX0_countMembers_32 rfl rfl rfl rfl rfl rfl rfl rfl ?_
        rw [e7]
        refine ga_dup2 dX0_countMembers_35 rfl rfl ?_
        refine hg_iald dX0_countMembers_36 rfl (by omega) (by omega) ?_
        rw [stI_at, e6]
        refine ga_iconst dX0_countMembers_37 ⟨by decide, by decide⟩ ?_
        refine ga_iadd dX0_countMembers_38 rfl (⟨by omega, by omega⟩) ?_
        refine hg_iast dX0_countMembers_39 rfl (by omega) (by omega) ?_
        rw [← e6, stI_at, stI_st, cmF_yes c9 hc]
        refine ga_iinc (z := ((d + 1 : Nat) : Int)) (lv2 := [_, _, _, _, _]) dX0_countMembers_40 (by decide) rfl rfl (by omega) (⟨by omega, by omega⟩) rfl ?_
        refine ga_goto (tgt := 8) dX0_countMembers_43 rfl ?_
        exact k
abbrev CD2 : List Nat := [21, 36, 37, 22, 23, 24, 25, 26, 27, 28, 29, 30, 31, 32, 33, 34, 35]
theorem dsg_prt {σ β : ga_S} {N D M E : Nat} (h : dsg σ β N D M E) (h1 : ∀ n : Int, 0 ≤ n → n < N → -1 ≤ σ.1 3 n) (h2 : ∀ n : Int, 0 ≤ n → n < M → -1 ≤ σ.1 10 n) : prtB β := by
  obtain ⟨⟨a1, a2, a3, a4, a5⟩, ⟨b1, b2, b3, b4, b5⟩, _⟩ := h
  intro y y1 y2 y3
  have y4 := y3.1
  rcases Int.lt_or_le y 40 with q | q
  · rw [show y % 40 = y by omega, show y / 40 = 0 by omega, a2] at y4
    have := a4 y y1 y4
    rw [show 40 * 0 + y = y by omega] at this
    have := h1 y y1 y4
    omega
  · rw [show y % 40 = y - 40 by omega, show y / 40 = 1 by omega, b2] at y4
    have := b4 (y - 40) (by omega) y4
    rw [show 40 * 1 + (y - 40) = y by omega] at this
    have := h2 (y - 40) (by omega) y4
    omega
theorem T_X0_divide (σ β : ga_S) (N D M E K : Nat) (hd : dsg σ β N D M E) (hp : prtB β) (hK : isK β K) : ga_Mt 4 0 0 mX0_divide [Vr 21, Vr 1] (HP σ) (fun v h => ∃ (τ : ga_S) (P : Nat), exc CD2 σ τ ∧ numb 60 (bL β) (τ.1 23) P (RDN β K).1 ∧ τ.1 21 2 = K ∧ τ.1 36 = cmF (τ.1 23) (σ.1 7) 0 (σ.1 36) D ∧ τ.1 37 = cmF (τ.1 23) (σ.1 14) 1 (σ.1 37) E ∧ v = none ∧ h = HP τ) ga_nox := by
  refine ga_meth [some (Vr 21), some (Vr 1), none] rfl rfl (by decide +kernel) (Nat.le_of_ble_eq_true rfl) rfl ?_
  refine ga_aload_n dX0_divide_0 rfl ?_
  refine ga_aload_n dX0_divide_1 rfl ?_
  refine hc_VP (T_X0_enterAll σ β N D M E hd) fX0_enterAll rfl kX0_enterAll lkX0_34 dX0_divide_2 rfl rfl rfl rfl rfl rfl rfl rfl ?_
  rintro v h ⟨τ, P, Q, x1, n1, n2, x2, x3, x4, x5⟩
  rw [x4, x5]
  refine ga_aload_n dX0_divide_5 rfl ?_
  refine ga_iconst dX0_divide_6 ⟨by decide, by decide⟩ ?_
  refine hg_putI 2 gfX0_23 dX0_divide_7 rfl rfl rfl ?_
  refine ga_iconst dX0_divide_10 ⟨by decide, by decide⟩ ?_
  refine ga_istore_n (lv2 := [_, _, _]) dX0_divide_11 (by decide) rfl rfl ?_
  have hK2 := isK_lt hK
  have TAIL : ∀ (τ : ga_S) (P : Nat) y, exc (21 :: CL) σ τ → numb 60 (bL β) (τ.1 23) P (RDN β K).1 → τ.1 21 2 = K → ga_W 4 0 0 0 0 mX0_divide (fun v h => ∃ (τ : ga_S) (P : Nat), exc CD2 σ τ ∧ numb 60 (bL β) (τ.1 23) P (RDN β K).1 ∧ τ.1 21 2 = K ∧ τ.1 36 = cmF (τ.1 23) (σ.1 7) 0 (σ.1 36) D ∧ τ.1 37 = cmF (τ.1 23) (σ.1 14) 1 (σ.1 37) E ∧ v = none ∧ h = HP τ) ga_nox 46 [some (Vr 21), some (Vr 1), y] [] (HP τ) := by
    intro τ P y hx hn h21
    have k7 := hx.1 7 (by decide)
    have k14 := hx.1 14 (by decide)
    have k36 := hx.1 36 (by decide)
    have k37 := hx.1 37 (by decide)
    obtain ⟨a, b, _, _, _⟩ := hd
    have hD := a.1.2.2.1
    have hD2 := a.1.2.2.2.1
    have hE := b.1.2.2.1
    have hE2 := b.1.2.2.2.1
    have r := hn.2.1
    have le := hn.2.2.2.2
    refine ga_aload_n dX0_divide_46 rfl ?_
    refine ga_aload_n dX0_divide_47 rfl ?_
    refine hg_getR grX0_42 dX0_divide_48 rfl rfl ?_
    refine ga_iconst dX0_divide_51 ⟨by decide, by decide⟩ ?_
    refine ga_aload_n dX0_divide_52 rfl ?_
    refine hg_getR grX0_27 dX0_divide_53 rfl rfl ?_
    refine hc_Vv (T_X0_countMembers_2 τ D (by rw [hx.1 2 (by decide)]; exact hD) hD2 (fun d h1 h2 h3 => by have := r (0 * 30 + d) (by omega) (by omega) (by rw [show 0 * 30 + d = 30 * 0 + d by omega]; exact (agF_live a h1 h2).mpr (by rw [← k7]; exact h3)); omega)) fX0_countMembers rfl kX0_countMembers lkX0_48 dX0_divide_56 rfl rfl rfl rfl rfl rfl rfl rfl ?_
    refine ga_aload_n dX0_divide_59 rfl ?_
    refine ga_aload_n dX0_divide_60 rfl ?_
    refine hg_getR grX0_52 dX0_divide_61 rfl rfl ?_
    refine ga_iconst dX0_divide_64 ⟨by decide, by decide⟩ ?_
    refine ga_aload_n dX0_divide_65 rfl ?_
    refine hg_getR grX0_31 dX0_divide_66 rfl rfl ?_
    refine hc_Vv (T_X0_countMembers_9 _ E (by rw [stI_ne _ _ (by decide), hx.1 9 (by decide)]; exact hE) hE2 (fun d h1 h2 h3 => by have := r (1 * 30 + d) (by omega) (by omega) (by rw [show 1 * 30 + d = 30 * 1 + d by omega]; exact (agF_live b h1 h2).mpr (by rw [← k14]; exact h3)); exact ⟨this.1, by show τ.1 23 _ < 60; omega⟩)) fX0_countMembers rfl kX0_countMembers lkX0_48 dX0_divide_69 rfl rfl rfl rfl rfl rfl rfl rfl ?_
    refine ga_ret (v := none) ?_ rfl (by decide) (by decide) ⟨dX0_divide_72, rfl⟩
    refine ⟨stI (stI τ 36 _) 37 _, P, ?_, ?_, ?_, ?_, ?_, rfl, rfl⟩
    · exact exc_st (exc_st (exc_m hx (by decide)) (by decide)) (by decide)
    · exact hn
    · exact h21
    · show cmF (τ.1 23) (τ.1 7) 0 (τ.1 36) D = cmF (τ.1 23) (σ.1 7) 0 (σ.1 36) D
      rw [k7, k36]
    · show cmF (τ.1 23) (τ.1 14) 1 (τ.1 37) E = cmF (τ.1 23) (σ.1 14) 1 (σ.1 37) E
      rw [k14, k37]
  have START : ∀ r i : Nat, i + r = K → ∀ (τ : ga_S) (P Q : Nat), exc (21 :: CL) σ τ → numb 60 (bL β) (τ.1 23) P (RDN β i).1 → numb 80 (bU β) (τ.1 30) Q (RDN β i).2 → τ.1 22 2 = P → τ.1 29 2 = Q → τ.1 21 2 = i → ga_W 4 0 0 0 0 mX0_divide (fun v h => ∃ (τ : ga_S) (P : Nat), exc CD2 σ τ ∧ numb 60 (bL β) (τ.1 23) P (RDN β K).1 ∧ τ.1 21 2 = K ∧ τ.1 36 = cmF (τ.1 23) (σ.1 7) 0 (σ.1 36) D ∧ τ.1 37 = cmF (τ.1 23) (σ.1 14) 1 (σ.1 37) E ∧ v = none ∧ h = HP τ) ga_nox 12 [some (Vr 21), some (Vr 1), some (Vi (i : Int))] [] (HP τ) := by
    intro r
    induction r with
    | zero =>
      intro i hi τ P Q hx n1 n2 hP hQ h21
      have hdt := dsg_exc hx (by decide) hd
      have hiK : i = K := by omega
      refine ga_iload_n dX0_divide_12 rfl ?_
      refine ga_sipush dX0_divide_13 ⟨by decide, by decide⟩ (by decide) ?_
      refine ga_icmp_ge (tgt := 46) dX0_divide_16 rfl (fun c_16 => ?_) (fun c_16 => ?_)
      · omega
      · refine ga_aload_n dX0_divide_19 rfl ?_
        refine ga_aload_n dX0_divide_20 rfl ?_
        refine hc_VP (T_X0_makeRound τ β N D M E P Q _ _ (RDN β (i + 1)).1 (RDN β (i + 1)).2 hdt n1 n2 hP hQ (RDN_0 hp i) (RDN_D β i) (RDN_N β i)) fX0_makeRound rfl kX0_makeRound lkX0_38 dX0_divide_21 rfl rfl rfl rfl rfl rfl rfl rfl ?_
        rintro v h ⟨τ2, P2, Q2, x1, m1, m2, x2, x3, x4, x5⟩
        rw [x4, x5]
        have no : ¬ (P < P2 ∨ Q < Q2) := by
          have a := n1.2.2.2.1
          have b := n2.2.2.2.1
          have c := m1.2.2.2.1
          have d := m2.2.2.2.1
          have g := hK.2
          have u := nF_D β i
          have w := nF_N β i
          rw [← hiK] at g
          unfold cntB at g
          omega
        refine ga_if_ne (tgt := 30) dX0_divide_24 rfl (fun c_24 => ?_) (fun c_24 => ?_)
        · rw [tv_ne0] at c_24
          exact absurd c_24 no
        · refine ga_goto (tgt := 46) dX0_divide_27 rfl ?_
          refine TAIL τ2 P2 _ (exc_tr hx x1 (fun _ z => z) (fun c z => List.mem_cons_of_mem _ z)) ?_ ?_
          · rw [← hiK]
            exact numb_cg m1 (by have := isK_same hK; rw [← hiK] at this; exact this)
          · rw [x1.1 21 (by decide), h21, hiK]
    | succ r ih =>
      intro i hi τ P Q hx n1 n2 hP hQ h21
      have hdt := dsg_exc hx (by decide) hd
      refine ga_iload_n dX0_divide_12 rfl ?_
      refine ga_sipush dX0_divide_13 ⟨by decide, by decide⟩ (by decide) ?_
      refine ga_icmp_ge (tgt := 46) dX0_divide_16 rfl (fun c_16 => ?_) (fun c_16 => ?_)
      · omega
      · refine ga_aload_n dX0_divide_19 rfl ?_
        refine ga_aload_n dX0_divide_20 rfl ?_
        refine hc_VP (T_X0_makeRound τ β N D M E P Q _ _ (RDN β (i + 1)).1 (RDN β (i + 1)).2 hdt n1 n2 hP hQ (RDN_0 hp i) (RDN_D β i) (RDN_N β i)) fX0_makeRound rfl kX0_makeRound lkX0_38 dX0_divide_21 rfl rfl rfl rfl rfl rfl rfl rfl ?_
        rintro v h ⟨τ2, P2, Q2, x1, m1, m2, x2, x3, x4, x5⟩
        rw [x4, x5]
        have yes : P < P2 ∨ Q < Q2 := by
          have a := n1.2.2.2.1
          have b := n2.2.2.2.1
          have c := m1.2.2.2.1
          have d := m2.2.2.2.1
          have g := hK.1 i (by omega)
          unfold cntB at g
          omega
        have h21' : τ2.1 21 2 = i := by rw [x1.1 21 (by decide), h21]
        refine ga_if_ne (tgt := 30) dX0_divide_24 rfl (fun c_24 => ?_) (fun c_24 => ?_)
        · refine ga_aload_n dX0_divide_30 rfl ?_
          refine ga_dup dX0_divide_31 rfl ?_
          refine hg_getI 2 grX0_23 dX0_divide_32 rfl rfl rfl ?_
          rw [h21']
          refine ga_iconst dX0_divide_35 ⟨by decide, by decide⟩ ?_
          refine ga_iadd (z := ((i + 1 : Nat) : Int)) dX0_divide_36 (by omega) (⟨by omega, by omega⟩) ?_
          refine hg_putI 2 gfX0_23 dX0_divide_37 rfl rfl rfl ?_
          refine ga_iinc (z := ((i + 1 : Nat) : Int)) (lv2 := [_, _, _]) dX0_divide_40 (by decide) rfl rfl (by omega) (⟨by omega, by omega⟩) rfl ?_
          refine ga_goto (tgt := 12) dX0_divide_43 rfl ?_
          exact ih (i + 1) (by omega) _ P2 Q2 (exc_st (exc_tr hx x1 (fun _ z => z) (fun c z => List.mem_cons_of_mem _ z)) (by decide)) m1 m2 x2 x3 rfl
        · rw [tv_eq0] at c_24
          exact absurd yes c_24
  refine START K 0 (by omega) _ P Q (exc_st (exc_m x1 (fun c z => List.mem_cons_of_mem _ z)) (by decide)) n1 ?_ x2 x3 rfl
  exact numb_cg n2 (fun x u _ _ _ _ _ _ => by show β.1 64 x = β.1 64 u ↔ β.1 64 x + 1 = β.1 64 u + 1; omega)
