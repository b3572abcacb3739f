-- truth as a number
def ga_b2 (p : Prop) [Decidable p] : Int := if p then 1 else 0
theorem ga_b2t {p : Prop} [Decidable p] (h : p) : (some (Vi 1) : Option ga_V) = some (Vi (ga_b2 p)) := by unfold ga_b2; rw [if_pos h]
theorem ga_b2f {p : Prop} [Decidable p] (h : ¬ p) : (some (Vi 0) : Option ga_V) = some (Vi (ga_b2 p)) := by unfold ga_b2; rw [if_neg h]
theorem ga_b20 {p : Prop} [Decidable p] : ga_b2 p = 0 ↔ ¬ p := by unfold ga_b2; split <;> simp_all
theorem ga_b201 {p : Prop} [Decidable p] : ga_b2 p = 0 ∨ ga_b2 p = 1 := by unfold ga_b2; split <;> simp
theorem ga_nb {x : Int} (h : x = 0 ∨ x = 1) : narrow .boolean (.int (Int32.ofInt x)) = .int (Int32.ofInt x) := by rcases h with z | z <;> subst z <;> rfl
theorem ga_b2in {p : Prop} [Decidable p] : ga_inI (ga_b2 p) := by rcases ga_b201 (p := p) with h | h <;> rw [h] <;> exact ⟨by decide, by decide⟩
theorem T_X9_isNet_2 (x : Int) (σ : ga_S) : ga_Mt 0 0 0 mX9_isNet [Vr 2, Vi x] (HP σ) (gis (some (Vi (ga_b2 (0 ≤ x ∧ x < σ.1 2 0)))) σ) ga_nox := by
  refine ga_meth [some (Vr 2), some (Vi x)] rfl rfl (by decide +kernel) (Nat.le_of_ble_eq_true rfl) rfl ?_
  refine ga_iload_n dX9_isNet_0 rfl ?_
  refine ga_if_lt (tgt := 16) dX9_isNet_1 rfl (fun c_1 => ?_) (fun c_1 => ?_)
  · refine ga_iconst dX9_isNet_16 ⟨by decide, by decide⟩ ?_
    refine ga_ret (v := some _) ?_ rfl (by decide) (by decide) ⟨dX9_isNet_17, _, rfl, rfl⟩
    exact ⟨ga_b2f (by omega), rfl⟩
  · refine ga_iload_n dX9_isNet_4 rfl ?_
    refine ga_aload_n dX9_isNet_5 rfl ?_
    refine hg_getI 0 grX9_9 dX9_isNet_6 rfl rfl rfl ?_
    refine ga_icmp_ge (tgt := 16) dX9_isNet_9 rfl (fun c_9 => ?_) (fun c_9 => ?_)
    · refine ga_iconst dX9_isNet_16 ⟨by decide, by decide⟩ ?_
      refine ga_ret (v := some _) ?_ rfl (by decide) (by decide) ⟨dX9_isNet_17, _, rfl, rfl⟩
      exact ⟨ga_b2f (by omega), rfl⟩
    · refine ga_iconst dX9_isNet_12 ⟨by decide, by decide⟩ ?_
      refine ga_goto (tgt := 17) dX9_isNet_13 rfl ?_
      refine ga_ret (v := some _) ?_ rfl (by decide) (by decide) ⟨dX9_isNet_17, _, rfl, rfl⟩
      exact ⟨ga_b2t (by omega), rfl⟩
theorem T_X9_netOf_2 (d k : Int) (σ : ga_S) (h1 : 0 ≤ d) (h2 : d < 30) (h3 : 0 ≤ k) (h4 : k < 4) : ga_Mt 0 0 0 mX9_netOf [Vr 2, Vi d, Vi k] (HP σ) (gis (some (Vi (σ.1 8 (d * 4 + k)))) σ) ga_nox := by
  refine ga_meth [some (Vr 2), some (Vi d), some (Vi k)] rfl rfl (by decide +kernel) (Nat.le_of_ble_eq_true rfl) rfl ?_
  refine ga_aload_n dX9_netOf_0 rfl ?_
  refine hg_getR grX9_36 dX9_netOf_1 rfl rfl ?_
  refine ga_iload_n dX9_netOf_4 rfl ?_
  refine ga_iconst dX9_netOf_5 ⟨by decide, by decide⟩ ?_
  refine ga_imul dX9_netOf_6 rfl (⟨by omega, by omega⟩) ?_
  refine ga_iload_n dX9_netOf_7 rfl ?_
  refine ga_iadd dX9_netOf_8 rfl (⟨by omega, by omega⟩) ?_
  refine hg_iald dX9_netOf_9 rfl (by omega) (by omega) ?_
  refine ga_ret (v := some _) ?_ rfl (by decide) (by decide) ⟨dX9_netOf_10, _, rfl, rfl⟩
  exact ⟨rfl, rfl⟩
theorem T_X9_connect_2 (d k n : Int) (σ : ga_S) (h1 : 0 ≤ d) (h2 : d < 30) (h3 : 0 ≤ k) (h4 : k < 4) : ga_Mt 1 0 0 mX9_connect [Vr 2, Vi d, Vi k, Vi n] (HP σ) (gis (some (Vi (ga_b2 (σ.1 8 (d * 4 + k) ≠ n)))) (stI σ 8 (ga_up (σ.1 8) (d * 4 + k) n))) ga_nox := by
  refine ga_meth [some (Vr 2), some (Vi d), some (Vi k), some (Vi n), none] rfl rfl (by decide +kernel) (Nat.le_of_ble_eq_true rfl) rfl ?_
  refine ga_aload_n dX9_connect_0 rfl ?_
  refine ga_iload_n dX9_connect_1 rfl ?_
  refine ga_iload_n dX9_connect_2 rfl ?_
  refine hc_V (T_X9_netOf_2 d k σ h1 h2 h3 h4) fX9_netOf rfl kX9_netOf lkX9_45 dX9_connect_3 rfl rfl rfl rfl rfl rfl rfl rfl ?_
  refine ga_iload_n dX9_connect_6 rfl ?_
  refine ga_icmp_eq (tgt := 14) dX9_connect_7 rfl (fun c_7 => ?_) (fun c_7 => ?_)
  · refine ga_iconst dX9_connect_14 ⟨by decide, by decide⟩ ?_
    refine ga_istore (lv2 := [_, _, _, _, _]) dX9_connect_15 (by decide) rfl rfl ?_
    refine ga_aload_n dX9_connect_17 rfl ?_
    refine hg_getR grX9_36 dX9_connect_18 rfl rfl ?_
    refine ga_iload_n dX9_connect_21 rfl ?_
    refine ga_iconst dX9_connect_22 ⟨by decide, by decide⟩ ?_
    refine ga_imul dX9_connect_23 rfl (⟨by omega, by omega⟩) ?_
    refine ga_iload_n dX9_connect_24 rfl ?_
    refine ga_iadd dX9_connect_25 rfl (⟨by omega, by omega⟩) ?_
    refine ga_iload_n dX9_connect_26 rfl ?_
    refine hg_iast dX9_connect_27 rfl (by omega) (by omega) ?_
    refine ga_iload dX9_connect_28 rfl ?_
    refine ga_ret (v := some _) ?_ rfl (by decide) (by decide) ⟨dX9_connect_30, _, rfl, rfl⟩
    exact ⟨ga_b2f (fun z => z c_7), rfl⟩
  · refine ga_iconst dX9_connect_10 ⟨by decide, by decide⟩ ?_
    refine ga_goto (tgt := 15) dX9_connect_11 rfl ?_
    refine ga_istore (lv2 := [_, _, _, _, _]) dX9_connect_15 (by decide) rfl rfl ?_
    refine ga_aload_n dX9_connect_17 rfl ?_
    refine hg_getR grX9_36 dX9_connect_18 rfl rfl ?_
    refine ga_iload_n dX9_connect_21 rfl ?_
    refine ga_iconst dX9_connect_22 ⟨by decide, by decide⟩ ?_
    refine ga_imul dX9_connect_23 rfl (⟨by omega, by omega⟩) ?_
    refine ga_iload_n dX9_connect_24 rfl ?_
    refine ga_iadd dX9_connect_25 rfl (⟨by omega, by omega⟩) ?_
    refine ga_iload_n dX9_connect_26 rfl ?_
    refine hg_iast dX9_connect_27 rfl (by omega) (by omega) ?_
    refine ga_iload dX9_connect_28 rfl ?_
    refine ga_ret (v := some _) ?_ rfl (by decide) (by decide) ⟨dX9_connect_30, _, rfl, rfl⟩
    exact ⟨ga_b2t c_7, rfl⟩
theorem T_X9_isNet_9 (x : Int) (σ : ga_S) : ga_Mt 0 0 0 mX9_isNet [Vr 9, Vi x] (HP σ) (gis (some (Vi (ga_b2 (0 ≤ x ∧ x < σ.1 9 0)))) σ) ga_nox := by
  refine ga_meth [some (Vr 9), some (Vi x)] rfl rfl (by decide +kernel) (Nat.le_of_ble_eq_true rfl) rfl ?_
  refine ga_iload_n dX9_isNet_0 rfl ?_
  refine ga_if_lt (tgt := 16) dX9_isNet_1 rfl (fun c_1 => ?_) (fun c_1 => ?_)
  · refine ga_iconst dX9_isNet_16 ⟨by decide, by decide⟩ ?_
    refine ga_ret (v := some _) ?_ rfl (by decide) (by decide) ⟨dX9_isNet_17, _, rfl, rfl⟩
    exact ⟨ga_b2f (by omega), rfl⟩
  · refine ga_iload_n dX9_isNet_4 rfl ?_
    refine ga_aload_n dX9_isNet_5 rfl ?_
    refine hg_getI 0 grX9_9 dX9_isNet_6 rfl rfl rfl ?_
    refine ga_icmp_ge (tgt := 16) dX9_isNet_9 rfl (fun c_9 => ?_) (fun c_9 => ?_)
    · refine ga_iconst dX9_isNet_16 ⟨by decide, by decide⟩ ?_
      refine ga_ret (v := some _) ?_ rfl (by decide) (by decide) ⟨dX9_isNet_17, _, rfl, rfl⟩
      exact ⟨ga_b2f (by omega), rfl⟩
    · refine ga_iconst dX9_isNet_12 ⟨by decide, by decide⟩ ?_
      refine ga_goto (tgt := 17) dX9_isNet_13 rfl ?_
      refine ga_ret (v := some _) ?_ rfl (by decide) (by decide) ⟨dX9_isNet_17, _, rfl, rfl⟩
      exact ⟨ga_b2t (by omega), rfl⟩
theorem T_X9_netOf_9 (d k : Int) (σ : ga_S) (h1 : 0 ≤ d) (h2 : d < 30) (h3 : 0 ≤ k) (h4 : k < 4) : ga_Mt 0 0 0 mX9_netOf [Vr 9, Vi d, Vi k] (HP σ) (gis (some (Vi (σ.1 15 (d * 4 + k)))) σ) ga_nox := by
  refine ga_meth [some (Vr 9), some (Vi d), some (Vi k)] rfl rfl (by decide +kernel) (Nat.le_of_ble_eq_true rfl) rfl ?_
  refine ga_aload_n dX9_netOf_0 rfl ?_
  refine hg_getR grX9_36 dX9_netOf_1 rfl rfl ?_
  refine ga_iload_n dX9_netOf_4 rfl ?_
  refine ga_iconst dX9_netOf_5 ⟨by decide, by decide⟩ ?_
  refine ga_imul dX9_netOf_6 rfl (⟨by omega, by omega⟩) ?_
  refine ga_iload_n dX9_netOf_7 rfl ?_
  refine ga_iadd dX9_netOf_8 rfl (⟨by omega, by omega⟩) ?_
  refine hg_iald dX9_netOf_9 rfl (by omega) (by omega) ?_
  refine ga_ret (v := some _) ?_ rfl (by decide) (by decide) ⟨dX9_netOf_10, _, rfl, rfl⟩
  exact ⟨rfl, rfl⟩
theorem T_X9_connect_9 (d k n : Int) (σ : ga_S) (h1 : 0 ≤ d) (h2 : d < 30) (h3 : 0 ≤ k) (h4 : k < 4) : ga_Mt 1 0 0 mX9_connect [Vr 9, Vi d, Vi k, Vi n] (HP σ) (gis (some (Vi (ga_b2 (σ.1 15 (d * 4 + k) ≠ n)))) (stI σ 15 (ga_up (σ.1 15) (d * 4 + k) n))) ga_nox := by
  refine ga_meth [some (Vr 9), some (Vi d), some (Vi k), some (Vi n), none] rfl rfl (by decide +kernel) (Nat.le_of_ble_eq_true rfl) rfl ?_
  refine ga_aload_n dX9_connect_0 rfl ?_
  refine ga_iload_n dX9_connect_1 rfl ?_
  refine ga_iload_n dX9_connect_2 rfl ?_
  refine hc_V (T_X9_netOf_9 d k σ h1 h2 h3 h4) fX9_netOf rfl kX9_netOf lkX9_45 dX9_connect_3 rfl rfl rfl rfl rfl rfl rfl rfl ?_
  refine ga_iload_n dX9_connect_6 rfl ?_
  refine ga_icmp_eq (tgt := 14) dX9_connect_7 rfl (fun c_7 => ?_) (fun c_7 => ?_)
  · refine ga_iconst dX9_connect_14 ⟨by decide, by decide⟩ ?_
    refine ga_istore (lv2 := [_, _, _, _, _]) dX9_connect_15 (by decide) rfl rfl ?_
    refine ga_aload_n dX9_connect_17 rfl ?_
    refine hg_getR grX9_36 dX9_connect_18 rfl rfl ?_
    refine ga_iload_n dX9_connect_21 rfl ?_
    refine ga_iconst dX9_connect_22 ⟨by decide, by decide⟩ ?_
    refine ga_imul dX9_connect_23 rfl (⟨by omega, by omega⟩) ?_
    refine ga_iload_n dX9_connect_24 rfl ?_
    refine ga_iadd dX9_connect_25 rfl (⟨by omega, by omega⟩) ?_
    refine ga_iload_n dX9_connect_26 rfl ?_
    refine hg_iast dX9_connect_27 rfl (by omega) (by omega) ?_
    refine ga_iload dX9_connect_28 rfl ?_
    refine ga_ret (v := some _) ?_ rfl (by decide) (by decide) ⟨dX9_connect_30, _, rfl, rfl⟩
    exact ⟨ga_b2f (fun z => z c_7), rfl⟩
  · refine ga_iconst dX9_connect_10 ⟨by decide, by decide⟩ ?_
    refine ga_goto (tgt := 15) dX9_connect_11 rfl ?_
    refine ga_istore (lv2 := [_, _, _, _, _]) dX9_connect_15 (by decide) rfl rfl ?_
    refine ga_aload_n dX9_connect_17 rfl ?_
    refine hg_getR grX9_36 dX9_connect_18 rfl rfl ?_
    refine ga_iload_n dX9_connect_21 rfl ?_
    refine ga_iconst dX9_connect_22 ⟨by decide, by decide⟩ ?_
    refine ga_imul dX9_connect_23 rfl (⟨by omega, by omega⟩) ?_
    refine ga_iload_n dX9_connect_24 rfl ?_
    refine ga_iadd dX9_connect_25 rfl (⟨by omega, by omega⟩) ?_
    refine ga_iload_n dX9_connect_26 rfl ?_
    refine hg_iast dX9_connect_27 rfl (by omega) (by omega) ?_
    refine ga_iload dX9_connect_28 rfl ?_
    refine ga_ret (v := some _) ?_ rfl (by decide) (by decide) ⟨dX9_connect_30, _, rfl, rfl⟩
    exact ⟨ga_b2t c_7, rfl⟩
