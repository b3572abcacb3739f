-- the face, on
def unS (σ : ga_S) (kd a b : Int) : ga_S := if σ.1 17 (kd * 4 + a) = σ.1 17 (kd * 4 + b) then σ else stI σ 17 (unF (σ.1 17) kd (σ.1 17 (kd * 4 + a)) (σ.1 17 (kd * 4 + b)) 4)
theorem T_X10_differs (y w : Int) (σ : ga_S) (h1 : 0 ≤ σ.1 60 0) (h2 : σ.1 60 0 ≤ 89) : ga_Mt 6 1 6 mX10_differs [Vr 0, Vi y, Vi w] (HP σ) (fun v h => ((0 ≤ y ∧ y < σ.1 60 0) ∧ 0 ≤ w ∧ w < 4) ∧ v = some (Vi (σ.1 61 (y * 4 + w))) ∧ h = HP σ) (fun E h => ¬ ((0 ≤ y ∧ y < σ.1 60 0) ∧ 0 ≤ w ∧ w < 4) ∧ E = xI ∧ h = HP σ) := by
  refine ga_meth [some (Vr 0), some (Vi y), some (Vi w)] rfl rfl (by decide +kernel) (Nat.le_of_ble_eq_true rfl) rfl ?_
  refine ga_iload_n dX10_differs_0 rfl ?_
  refine ga_if_lt (tgt := 15) dX10_differs_1 rfl (fun c_1 => ?_) (fun c_1 => ?_)
  · refine ga_throw (text := "no such difference") tf_91 (by decide +kernel) rfl dX10_differs_15 dX10_differs_18 dX10_differs_19 dX10_differs_21 dX10_differs_24 (by decide) (Nat.le_of_ble_eq_true rfl) (by decide) (by decide) ?_
    exact ⟨by omega, rfl, rfl⟩
  · refine ga_iload_n dX10_differs_4 rfl ?_
    refine ga_aload_n dX10_differs_5 rfl ?_
    refine hg_getR grX10_47 dX10_differs_6 rfl rfl ?_
    refine hg_getI 0 grX10_214 dX10_differs_9 rfl rfl rfl ?_
    refine ga_icmp_lt (tgt := 25) dX10_differs_12 rfl (fun c_12 => ?_) (fun c_12 => ?_)
    · refine ga_iload_n dX10_differs_25 rfl ?_
      refine ga_if_lt (tgt := 34) dX10_differs_26 rfl (fun c_26 => ?_) (fun c_26 => ?_)
      · refine ga_throw (text := "no such part of a difference") tf_91 (by decide +kernel) rfl dX10_differs_34 dX10_differs_37 dX10_differs_38 dX10_differs_40 dX10_differs_43 (by decide) (Nat.le_of_ble_eq_true rfl) (by decide) (by decide) ?_
        exact ⟨by omega, rfl, rfl⟩
      · refine ga_iload_n dX10_differs_29 rfl ?_
        refine ga_iconst dX10_differs_30 ⟨by decide, by decide⟩ ?_
        refine ga_icmp_lt (tgt := 44) dX10_differs_31 rfl (fun c_31 => ?_) (fun c_31 => ?_)
        · refine ga_aload_n dX10_differs_44 rfl ?_
          refine hg_getR grX10_47 dX10_differs_45 rfl rfl ?_
          refine hg_getR grX10_221 dX10_differs_48 rfl rfl ?_
          refine ga_iload_n dX10_differs_51 rfl ?_
          refine ga_iconst dX10_differs_52 ⟨by decide, by decide⟩ ?_
          refine ga_imul dX10_differs_53 rfl (⟨by omega, by omega⟩) ?_
          refine ga_iload_n dX10_differs_54 rfl ?_
          refine ga_iadd dX10_differs_55 rfl (⟨by omega, by omega⟩) ?_
          refine hg_iald dX10_differs_56 rfl (by omega) (by omega) ?_
          refine ga_ret (v := some _) ?_ rfl (by decide) (by decide) ⟨dX10_differs_57, _, rfl, rfl⟩
          exact ⟨⟨⟨by omega, c_12⟩, by omega, c_31⟩, rfl, rfl⟩
        · refine ga_throw (text := "no such part of a difference") tf_91 (by decide +kernel) rfl dX10_differs_34 dX10_differs_37 dX10_differs_38 dX10_differs_40 dX10_differs_43 (by decide) (Nat.le_of_ble_eq_true rfl) (by decide) (by decide) ?_
          exact ⟨by omega, rfl, rfl⟩
    · refine ga_throw (text := "no such difference") tf_91 (by decide +kernel) rfl dX10_differs_15 dX10_differs_18 dX10_differs_19 dX10_differs_21 dX10_differs_24 (by decide) (Nat.le_of_ble_eq_true rfl) (by decide) (by decide) ?_
      exact ⟨by omega, rfl, rfl⟩
theorem T_X10_pin_2 (d k n : Int) (σ : ga_S) (h2 : σ.1 2 3 ≤ 30) : ga_Mt 6 1 6 mX10_pin [Vr 0, Vi 0, Vi d, Vi k, Vi n] (HP σ) (fun v h => (((0 ≤ d ∧ d < σ.1 2 3) ∧ σ.1 7 d = 0) ∧ (0 ≤ k ∧ k < 4) ∧ (n = -1 ∨ (0 ≤ n ∧ n < σ.1 2 0))) ∧ v = some (Vi (tv (σ.1 8 (d * 4 + k) ≠ n))) ∧ h = HP (stI σ 8 (ga_up (σ.1 8) (d * 4 + k) n))) (fun E h => ¬ (((0 ≤ d ∧ d < σ.1 2 3) ∧ σ.1 7 d = 0) ∧ (0 ≤ k ∧ k < 4) ∧ (n = -1 ∨ (0 ≤ n ∧ n < σ.1 2 0))) ∧ E = xI ∧ h = HP σ) := by
  refine ga_meth [some (Vr 0), some (Vi 0), some (Vi d), some (Vi k), some (Vi n), none] rfl rfl (by decide +kernel) (Nat.le_of_ble_eq_true rfl) rfl ?_
  refine ga_aload_n dX10_pin_0 rfl ?_
  refine ga_iload_n dX10_pin_1 rfl ?_
  refine hc_V (T_X10_sideAt_2 σ) fX10_sideAt rfl kX10_sideAt lkX10_58 dX10_pin_2 rfl rfl rfl rfl rfl rfl rfl rfl ?_
  refine ga_astore (lv2 := [_, _, _, _, _, _]) dX10_pin_5 (by decide) rfl rfl ?_
  refine ga_aload dX10_pin_7 rfl ?_
  refine ga_iload_n dX10_pin_9 rfl ?_
  refine hc_V (T_X9_isDevice_2 d σ) fX9_isDevice rfl kX9_isDevice lkX10_105 dX10_pin_10 rfl rfl rfl rfl rfl rfl rfl rfl ?_
  refine ga_if_eq (tgt := 26) dX10_pin_13 rfl (fun c_13 => ?_) (fun c_13 => ?_)
  · rw [tv_eq0] at c_13
    refine ga_throw (text := "no such device") tf_91 (by decide +kernel) rfl dX10_pin_26 dX10_pin_29 dX10_pin_30 dX10_pin_32 dX10_pin_35 (by decide) (Nat.le_of_ble_eq_true rfl) (by decide) (by decide) ?_
    exact ⟨fun z => c_13 z.1.1, rfl, rfl⟩
  · rw [tv_ne0] at c_13
    refine ga_aload dX10_pin_16 rfl ?_
    refine hg_getR grX10_108 dX10_pin_18 rfl rfl ?_
    refine ga_iload_n dX10_pin_21 rfl ?_
    refine hg_zald dX10_pin_22 rfl (by omega) (by omega) ?_
    refine ga_if_eq (tgt := 36) dX10_pin_23 rfl (fun c_23 => ?_) (fun c_23 => ?_)
    · refine ga_iload_n dX10_pin_36 rfl ?_
      refine hc_S (T_X10_isPin k _) fX10_isPin rfl kX10_isPin lkX10_114 dX10_pin_37 rfl rfl rfl rfl rfl rfl ?_
      refine ga_if_ne (tgt := 53) dX10_pin_40 rfl (fun c_40 => ?_) (fun c_40 => ?_)
      · rw [tv_ne0] at c_40
        refine ga_iload dX10_pin_53 rfl ?_
        refine ga_iconst dX10_pin_55 ⟨by decide, by decide⟩ ?_
        refine ga_icmp_eq (tgt := 79) dX10_pin_56 rfl (fun c_56 => ?_) (fun c_56 => ?_)
        · refine ga_aload dX10_pin_79 rfl ?_
          refine ga_iload_n dX10_pin_81 rfl ?_
          refine ga_iload_n dX10_pin_82 rfl ?_
          refine ga_iload dX10_pin_83 rfl ?_
          refine hc_V (T_X9_connect_2 d k n σ c_13.1 (by omega) c_40.1 c_40.2) fX9_connect rfl kX9_connect lkX10_124 dX10_pin_85 rfl rfl rfl rfl rfl rfl rfl rfl ?_
          refine ga_ret (v := some _) ?_ rfl (by decide) (by decide) ⟨dX10_pin_88, _, rfl, tv_nb⟩
          exact ⟨⟨⟨c_13, c_23⟩, c_40, Or.inl c_56⟩, rfl, rfl⟩
        · refine ga_aload dX10_pin_59 rfl ?_
          refine ga_iload dX10_pin_61 rfl ?_
          refine hc_V (T_X9_isNet_2 n σ) fX9_isNet rfl kX9_isNet lkX10_119 dX10_pin_63 rfl rfl rfl rfl rfl rfl rfl rfl ?_
          refine ga_if_ne (tgt := 79) dX10_pin_66 rfl (fun c_66 => ?_) (fun c_66 => ?_)
          · rw [tv_ne0] at c_66
            refine ga_aload dX10_pin_79 rfl ?_
            refine ga_iload_n dX10_pin_81 rfl ?_
            refine ga_iload_n dX10_pin_82 rfl ?_
            refine ga_iload dX10_pin_83 rfl ?_
            refine hc_V (T_X9_connect_2 d k n σ c_13.1 (by omega) c_40.1 c_40.2) fX9_connect rfl kX9_connect lkX10_124 dX10_pin_85 rfl rfl rfl rfl rfl rfl rfl rfl ?_
            refine ga_ret (v := some _) ?_ rfl (by decide) (by decide) ⟨dX10_pin_88, _, rfl, tv_nb⟩
            exact ⟨⟨⟨c_13, c_23⟩, c_40, Or.inr c_66⟩, rfl, rfl⟩
          · rw [tv_eq0] at c_66
            refine ga_throw (text := "no such net") tf_91 (by decide +kernel) rfl dX10_pin_69 dX10_pin_72 dX10_pin_73 dX10_pin_75 dX10_pin_78 (by decide) (Nat.le_of_ble_eq_true rfl) (by decide) (by decide) ?_
            exact ⟨fun z => z.2.2.elim c_56 c_66, rfl, rfl⟩
      · rw [tv_eq0] at c_40
        refine ga_throw (text := "no such pin") tf_91 (by decide +kernel) rfl dX10_pin_43 dX10_pin_46 dX10_pin_47 dX10_pin_49 dX10_pin_52 (by decide) (Nat.le_of_ble_eq_true rfl) (by decide) (by decide) ?_
        exact ⟨fun z => c_40 z.2.1, rfl, rfl⟩
    · refine ga_throw (text := "no such device") tf_91 (by decide +kernel) rfl dX10_pin_26 dX10_pin_29 dX10_pin_30 dX10_pin_32 dX10_pin_35 (by decide) (Nat.le_of_ble_eq_true rfl) (by decide) (by decide) ?_
      exact ⟨fun z => c_23 z.1.2, rfl, rfl⟩
theorem T_X10_port_2 (n y : Int) (σ : ga_S) (N : Nat) (hN : σ.1 2 0 = N) (hN2 : N ≤ 40) : ga_Mt 6 1 6 mX10_port [Vr 0, Vi 0, Vi n, Vi y] (HP σ) (fun v h => ((0 ≤ n ∧ n < σ.1 2 0) ∧ 0 ≤ y ∧ (firstF (fun n => decide (σ.1 3 n ≠ -1 ∧ σ.1 3 n = y)) N 0 = -1 ∨ firstF (fun n => decide (σ.1 3 n ≠ -1 ∧ σ.1 3 n = y)) N 0 = n)) ∧ v = some (Vi (tv (σ.1 3 n = -1))) ∧ h = HP (stI σ 3 (ga_up (σ.1 3) n y))) (fun E h => ((¬ (0 ≤ n ∧ n < σ.1 2 0) ∧ E = xI) ∨ ((0 ≤ n ∧ n < σ.1 2 0) ∧ ¬ (0 ≤ y ∧ (firstF (fun n => decide (σ.1 3 n ≠ -1 ∧ σ.1 3 n = y)) N 0 = -1 ∨ firstF (fun n => decide (σ.1 3 n ≠ -1 ∧ σ.1 3 n = y)) N 0 = n)) ∧ E = xA)) ∧ h = HP σ) := by
  refine ga_meth [some (Vr 0), some (Vi 0), some (Vi n), some (Vi y), none, none] rfl rfl (by decide +kernel) (Nat.le_of_ble_eq_true rfl) rfl ?_
  refine ga_aload_n dX10_port_0 rfl ?_
  refine ga_iload_n dX10_port_1 rfl ?_
  refine hc_V (T_X10_sideAt_2 σ) fX10_sideAt rfl kX10_sideAt lkX10_58 dX10_port_2 rfl rfl rfl rfl rfl rfl rfl rfl ?_
  refine ga_astore (lv2 := [_, _, _, _, _, _]) dX10_port_5 (by decide) rfl rfl ?_
  refine ga_aload dX10_port_7 rfl ?_
  refine ga_iload_n dX10_port_9 rfl ?_
  refine hc_V (T_X9_isNet_2 n σ) fX9_isNet rfl kX9_isNet lkX10_119 dX10_port_10 rfl rfl rfl rfl rfl rfl rfl rfl ?_
  refine ga_if_ne (tgt := 26) dX10_port_13 rfl (fun c_13 => ?_) (fun c_13 => ?_)
  · rw [tv_ne0] at c_13
    have n40 : n < 40 := by have := c_13.2; omega
    refine ga_iload_n dX10_port_26 rfl ?_
    refine ga_if_ge (tgt := 40) dX10_port_27 rfl (fun c_27 => ?_) (fun c_27 => ?_)
    · refine ga_aload dX10_port_40 rfl ?_
      refine ga_iload_n dX10_port_42 rfl ?_
      refine hc_V (T_X9_portNamed_2 y σ N hN hN2) fX9_portNamed rfl kX9_portNamed lkX10_143 dX10_port_43 rfl rfl rfl rfl rfl rfl rfl rfl ?_
      refine ga_istore (lv2 := [_, _, _, _, _, _]) dX10_port_46 (by decide) rfl rfl ?_
      refine ga_iload dX10_port_48 rfl ?_
      refine ga_iconst dX10_port_50 ⟨by decide, by decide⟩ ?_
      refine ga_icmp_eq (tgt := 70) dX10_port_51 rfl (fun c_51 => ?_) (fun c_51 => ?_)
      · refine ga_aload dX10_port_70 rfl ?_
        refine ga_iload_n dX10_port_72 rfl ?_
        refine ga_iload_n dX10_port_73 rfl ?_
        refine hc_V (T_X9_makePort_2 n y σ c_13.1 n40) fX9_makePort rfl kX9_makePort lkX10_149 dX10_port_74 rfl rfl rfl rfl rfl rfl rfl rfl ?_
        refine ga_ret (v := some _) ?_ rfl (by decide) (by decide) ⟨dX10_port_77, _, rfl, tv_nb⟩
        exact ⟨⟨c_13, by omega, Or.inl c_51⟩, rfl, rfl⟩
      · refine ga_iload dX10_port_54 rfl ?_
        refine ga_iload_n dX10_port_56 rfl ?_
        refine ga_icmp_eq (tgt := 70) dX10_port_57 rfl (fun c_57 => ?_) (fun c_57 => ?_)
        · refine ga_aload dX10_port_70 rfl ?_
          refine ga_iload_n dX10_port_72 rfl ?_
          refine ga_iload_n dX10_port_73 rfl ?_
          refine hc_V (T_X9_makePort_2 n y σ c_13.1 n40) fX9_makePort rfl kX9_makePort lkX10_149 dX10_port_74 rfl rfl rfl rfl rfl rfl rfl rfl ?_
          refine ga_ret (v := some _) ?_ rfl (by decide) (by decide) ⟨dX10_port_77, _, rfl, tv_nb⟩
          exact ⟨⟨c_13, by omega, Or.inr c_57⟩, rfl, rfl⟩
        · refine ga_throw (text := "the name of another port") tf_78 (by decide +kernel) rfl dX10_port_60 dX10_port_63 dX10_port_64 dX10_port_66 dX10_port_69 (by decide) (Nat.le_of_ble_eq_true rfl) (by decide) (by decide) ?_
          exact ⟨Or.inr ⟨c_13, fun z => z.2.elim c_51 c_57, rfl⟩, rfl⟩
    · refine ga_throw (text := "a name below 0") tf_78 (by decide +kernel) rfl dX10_port_30 dX10_port_33 dX10_port_34 dX10_port_36 dX10_port_39 (by decide) (Nat.le_of_ble_eq_true rfl) (by decide) (by decide) ?_
      exact ⟨Or.inr ⟨c_13, fun z => by omega, rfl⟩, rfl⟩
  · rw [tv_eq0] at c_13
    refine ga_throw (text := "no such net") tf_91 (by decide +kernel) rfl dX10_port_16 dX10_port_19 dX10_port_20 dX10_port_22 dX10_port_25 (by decide) (Nat.le_of_ble_eq_true rfl) (by decide) (by decide) ?_
    exact ⟨Or.inl ⟨c_13, rfl⟩, rfl⟩
theorem T_X10_pin_9 (d k n : Int) (σ : ga_S) (h2 : σ.1 9 3 ≤ 30) : ga_Mt 6 1 6 mX10_pin [Vr 0, Vi 1, Vi d, Vi k, Vi n] (HP σ) (fun v h => (((0 ≤ d ∧ d < σ.1 9 3) ∧ σ.1 14 d = 0) ∧ (0 ≤ k ∧ k < 4) ∧ (n = -1 ∨ (0 ≤ n ∧ n < σ.1 9 0))) ∧ v = some (Vi (tv (σ.1 15 (d * 4 + k) ≠ n))) ∧ h = HP (stI σ 15 (ga_up (σ.1 15) (d * 4 + k) n))) (fun E h => ¬ (((0 ≤ d ∧ d < σ.1 9 3) ∧ σ.1 14 d = 0) ∧ (0 ≤ k ∧ k < 4) ∧ (n = -1 ∨ (0 ≤ n ∧ n < σ.1 9 0))) ∧ E = xI ∧ h = HP σ) := by
  refine ga_meth [some (Vr 0), some (Vi 1), some (Vi d), some (Vi k), some (Vi n), none] rfl rfl (by decide +kernel) (Nat.le_of_ble_eq_true rfl) rfl ?_
  refine ga_aload_n dX10_pin_0 rfl ?_
  refine ga_iload_n dX10_pin_1 rfl ?_
  refine hc_V (T_X10_sideAt_9 σ) fX10_sideAt rfl kX10_sideAt lkX10_58 dX10_pin_2 rfl rfl rfl rfl rfl rfl rfl rfl ?_
  refine ga_astore (lv2 := [_, _, _, _, _, _]) dX10_pin_5 (by decide) rfl rfl ?_
  refine ga_aload dX10_pin_7 rfl ?_
  refine ga_iload_n dX10_pin_9 rfl ?_
  refine hc_V (T_X9_isDevice_9 d σ) fX9_isDevice rfl kX9_isDevice lkX10_105 dX10_pin_10 rfl rfl rfl rfl rfl rfl rfl rfl ?_
  refine ga_if_eq (tgt := 26) dX10_pin_13 rfl (fun c_13 => ?_) (fun c_13 => ?_)
  · rw [tv_eq0] at c_13
    refine ga_throw (text := "no such device") tf_91 (by decide +kernel) rfl dX10_pin_26 dX10_pin_29 dX10_pin_30 dX10_pin_32 dX10_pin_35 (by decide) (Nat.le_of_ble_eq_true rfl) (by decide) (by decide) ?_
    exact ⟨fun z => c_13 z.1.1, rfl, rfl⟩
  · rw [tv_ne0] at c_13
    refine ga_aload dX10_pin_16 rfl ?_
    refine hg_getR grX10_108 dX10_pin_18 rfl rfl ?_
    refine ga_iload_n dX10_pin_21 rfl ?_
    refine hg_zald dX10_pin_22 rfl (by omega) (by omega) ?_
    refine ga_if_eq (tgt := 36) dX10_pin_23 rfl (fun c_23 => ?_) (fun c_23 => ?_)
    · refine ga_iload_n dX10_pin_36 rfl ?_
      refine hc_S (T_X10_isPin k _) fX10_isPin rfl kX10_isPin lkX10_114 dX10_pin_37 rfl rfl rfl rfl rfl rfl ?_
      refine ga_if_ne (tgt := 53) dX10_pin_40 rfl (fun c_40 => ?_) (fun c_40 => ?_)
      · rw [tv_ne0] at c_40
        refine ga_iload dX10_pin_53 rfl ?_
        refine ga_iconst dX10_pin_55 ⟨by decide, by decide⟩ ?_
        refine ga_icmp_eq (tgt := 79) dX10_pin_56 rfl (fun c_56 => ?_) (fun c_56 => ?_)
        · refine ga_aload dX10_pin_79 rfl ?_
          refine ga_iload_n dX10_pin_81 rfl ?_
          refine ga_iload_n dX10_pin_82 rfl ?_
          refine ga_iload dX10_pin_83 rfl ?_
          refine hc_V (T_X9_connect_9 d k n σ c_13.1 (by omega) c_40.1 c_40.2) fX9_connect rfl kX9_connect lkX10_124 dX10_pin_85 rfl rfl rfl rfl rfl rfl rfl rfl ?_
          refine ga_ret (v := some _) ?_ rfl (by decide) (by decide) ⟨dX10_pin_88, _, rfl, tv_nb⟩
          exact ⟨⟨⟨c_13, c_23⟩, c_40, Or.inl c_56⟩, rfl, rfl⟩
        · refine ga_aload dX10_pin_59 rfl ?_
          refine ga_iload dX10_pin_61 rfl ?_
          refine hc_V (T_X9_isNet_9 n σ) fX9_isNet rfl kX9_isNet lkX10_119 dX10_pin_63 rfl rfl rfl rfl rfl rfl rfl rfl ?_
          refine ga_if_ne (tgt := 79) dX10_pin_66 rfl (fun c_66 => ?_) (fun c_66 => ?_)
          · rw [tv_ne0] at c_66
            refine ga_aload dX10_pin_79 rfl ?_
            refine ga_iload_n dX10_pin_81 rfl ?_
            refine ga_iload_n dX10_pin_82 rfl ?_
            refine ga_iload dX10_pin_83 rfl ?_
            refine hc_V (T_X9_connect_9 d k n σ c_13.1 (by omega) c_40.1 c_40.2) fX9_connect rfl kX9_connect lkX10_124 dX10_pin_85 rfl rfl rfl rfl rfl rfl rfl rfl ?_
            refine ga_ret (v := some _) ?_ rfl (by decide) (by decide) ⟨dX10_pin_88, _, rfl, tv_nb⟩
            exact ⟨⟨⟨c_13, c_23⟩, c_40, Or.inr c_66⟩, rfl, rfl⟩
          · rw [tv_eq0] at c_66
            refine ga_throw (text := "no such net") tf_91 (by decide +kernel) rfl dX10_pin_69 dX10_pin_72 dX10_pin_73 dX10_pin_75 dX10_pin_78 (by decide) (Nat.le_of_ble_eq_true rfl) (by decide) (by decide) ?_
            exact ⟨fun z => z.2.2.elim c_56 c_66, rfl, rfl⟩
      · rw [tv_eq0] at c_40
        refine ga_throw (text := "no such pin") tf_91 (by decide +kernel) rfl dX10_pin_43 dX10_pin_46 dX10_pin_47 dX10_pin_49 dX10_pin_52 (by decide) (Nat.le_of_ble_eq_true rfl) (by decide) (by decide) ?_
        exact ⟨fun z => c_40 z.2.1, rfl, rfl⟩
    · refine ga_throw (text := "no such device") tf_91 (by decide +kernel) rfl dX10_pin_26 dX10_pin_29 dX10_pin_30 dX10_pin_32 dX10_pin_35 (by decide) (Nat.le_of_ble_eq_true rfl) (by decide) (by decide) ?_
      exact ⟨fun z => c_23 z.1.2, rfl, rfl⟩
theorem T_X10_port_9 (n y : Int) (σ : ga_S) (N : Nat) (hN : σ.1 9 0 = N) (hN2 : N ≤ 40) : ga_Mt 6 1 6 mX10_port [Vr 0, Vi 1, Vi n, Vi y] (HP σ) (fun v h => ((0 ≤ n ∧ n < σ.1 9 0) ∧ 0 ≤ y ∧ (firstF (fun n => decide (σ.1 10 n ≠ -1 ∧ σ.1 10 n = y)) N 0 = -1 ∨ firstF (fun n => decide (σ.1 10 n ≠ -1 ∧ σ.1 10 n = y)) N 0 = n)) ∧ v = some (Vi (tv (σ.1 10 n = -1))) ∧ h = HP (stI σ 10 (ga_up (σ.1 10) n y))) (fun E h => ((¬ (0 ≤ n ∧ n < σ.1 9 0) ∧ E = xI) ∨ ((0 ≤ n ∧ n < σ.1 9 0) ∧ ¬ (0 ≤ y ∧ (firstF (fun n => decide (σ.1 10 n ≠ -1 ∧ σ.1 10 n = y)) N 0 = -1 ∨ firstF (fun n => decide (σ.1 10 n ≠ -1 ∧ σ.1 10 n = y)) N 0 = n)) ∧ E = xA)) ∧ h = HP σ) := by
  refine ga_meth [some (Vr 0), some (Vi 1), some (Vi n), some (Vi y), none, none] rfl rfl (by decide +kernel) (Nat.le_of_ble_eq_true rfl) rfl ?_
  refine ga_aload_n dX10_port_0 rfl ?_
  refine ga_iload_n dX10_port_1 rfl ?_
  refine hc_V (T_X10_sideAt_9 σ) fX10_sideAt rfl kX10_sideAt lkX10_58 dX10_port_2 rfl rfl rfl rfl rfl rfl rfl rfl ?_
  refine ga_astore (lv2 := [_, _, _, _, _, _]) dX10_port_5 (by decide) rfl rfl ?_
  refine ga_aload dX10_port_7 rfl ?_
  refine ga_iload_n dX10_port_9 rfl ?_
  refine hc_V (T_X9_isNet_9 n σ) fX9_isNet rfl kX9_isNet lkX10_119 dX10_port_10 rfl rfl rfl rfl rfl rfl rfl rfl ?_
  refine ga_if_ne (tgt := 26) dX10_port_13 rfl (fun c_13 => ?_) (fun c_13 => ?_)
  · rw [tv_ne0] at c_13
    have n40 : n < 40 := by have := c_13.2; omega
    refine ga_iload_n dX10_port_26 rfl ?_
    refine ga_if_ge (tgt := 40) dX10_port_27 rfl (fun c_27 => ?_) (fun c_27 => ?_)
    · refine ga_aload dX10_port_40 rfl ?_
      refine ga_iload_n dX10_port_42 rfl ?_
      refine hc_V (T_X9_portNamed_9 y σ N hN hN2) fX9_portNamed rfl kX9_portNamed lkX10_143 dX10_port_43 rfl rfl rfl rfl rfl rfl rfl rfl ?_
      refine ga_istore (lv2 := [_, _, _, _, _, _]) dX10_port_46 (by decide) rfl rfl ?_
      refine ga_iload dX10_port_48 rfl ?_
      refine ga_iconst dX10_port_50 ⟨by decide, by decide⟩ ?_
      refine ga_icmp_eq (tgt := 70) dX10_port_51 rfl (fun c_51 => ?_) (fun c_51 => ?_)
      · refine ga_aload dX10_port_70 rfl ?_
        refine ga_iload_n dX10_port_72 rfl ?_
        refine ga_iload_n dX10_port_73 rfl ?_
        refine hc_V (T_X9_makePort_9 n y σ c_13.1 n40) fX9_makePort rfl kX9_makePort lkX10_149 dX10_port_74 rfl rfl rfl rfl rfl rfl rfl rfl ?_
        refine ga_ret (v := some _) ?_ rfl (by decide) (by decide) ⟨dX10_port_77, _, rfl, tv_nb⟩
        exact ⟨⟨c_13, by omega, Or.inl c_51⟩, rfl, rfl⟩
      · refine ga_iload dX10_port_54 rfl ?_
        refine ga_iload_n dX10_port_56 rfl ?_
        refine ga_icmp_eq (tgt := 70) dX10_port_57 rfl (fun c_57 => ?_) (fun c_57 => ?_)
        · refine ga_aload dX10_port_70 rfl ?_
          refine ga_iload_n dX10_port_72 rfl ?_
          refine ga_iload_n dX10_port_73 rfl ?_
          refine hc_V (T_X9_makePort_9 n y σ c_13.1 n40) fX9_makePort rfl kX9_makePort lkX10_149 dX10_port_74 rfl rfl rfl rfl rfl rfl rfl rfl ?_
          refine ga_ret (v := some _) ?_ rfl (by decide) (by decide) ⟨dX10_port_77, _, rfl, tv_nb⟩
          exact ⟨⟨c_13, by omega, Or.inr c_57⟩, rfl, rfl⟩
        · refine ga_throw (text := "the name of another port") tf_78 (by decide +kernel) rfl dX10_port_60 dX10_port_63 dX10_port_64 dX10_port_66 dX10_port_69 (by decide) (Nat.le_of_ble_eq_true rfl) (by decide) (by decide) ?_
          exact ⟨Or.inr ⟨c_13, fun z => z.2.elim c_51 c_57, rfl⟩, rfl⟩
    · refine ga_throw (text := "a name below 0") tf_78 (by decide +kernel) rfl dX10_port_30 dX10_port_33 dX10_port_34 dX10_port_36 dX10_port_39 (by decide) (Nat.le_of_ble_eq_true rfl) (by decide) (by decide) ?_
      exact ⟨Or.inr ⟨c_13, fun z => by omega, rfl⟩, rfl⟩
  · rw [tv_eq0] at c_13
    refine ga_throw (text := "no such net") tf_91 (by decide +kernel) rfl dX10_port_16 dX10_port_19 dX10_port_20 dX10_port_22 dX10_port_25 (by decide) (Nat.le_of_ble_eq_true rfl) (by decide) (by decide) ?_
    exact ⟨Or.inl ⟨c_13, rfl⟩, rfl⟩
theorem T_X10_share (kd : Int) (v : UInt64) (σ : ga_S) : ga_Mt 6 1 6 mX10_share [Vr 0, Vi kd, Vd v] (HP σ) (fun v2 h => ((0 ≤ kd ∧ kd < 8) ∧ ¬ dcl v FP.dconst0 < 0 ∧ dcg v FP.dconst1 ≤ 0) ∧ v2 = some (Vi (tv (¬ dcl (σ.2 18 kd) v = 0))) ∧ h = HP (stD σ 18 (ga_up (σ.2 18) kd v))) (fun E h => ((¬ (0 ≤ kd ∧ kd < 8) ∧ E = xI) ∨ ((0 ≤ kd ∧ kd < 8) ∧ ¬ (¬ dcl v FP.dconst0 < 0 ∧ dcg v FP.dconst1 ≤ 0) ∧ E = xA)) ∧ h = HP σ) := by
  refine ga_meth [some (Vr 0), some (Vi kd), some (Vd v), none] rfl rfl (by decide +kernel) (Nat.le_of_ble_eq_true rfl) rfl ?_
  refine ga_iload_n dX10_share_0 rfl ?_
  refine hc_S (T_X10_isKind kd _) fX10_isKind rfl kX10_isKind lkX10_83 dX10_share_1 rfl rfl rfl rfl rfl rfl ?_
  refine ga_if_ne (tgt := 17) dX10_share_4 rfl (fun c_4 => ?_) (fun c_4 => ?_)
  · rw [tv_ne0] at c_4
    refine ga_dload_n dX10_share_17 rfl ?_
    refine ga_dconst0 dX10_share_18 ?_
    refine ga_dcmp dX10_share_19 (ga_ofI _).symm (ga_inI32 _) ?_
    refine ga_if_lt (tgt := 29) dX10_share_20 rfl (fun c_20 => ?_) (fun c_20 => ?_)
    · refine ga_throw (text := "no such share") tf_78 (by decide +kernel) rfl dX10_share_29 dX10_share_32 dX10_share_33 dX10_share_35 dX10_share_38 (by decide) (Nat.le_of_ble_eq_true rfl) (by decide) (by decide) ?_
      exact ⟨Or.inr ⟨c_4, fun z => z.1 c_20, rfl⟩, rfl⟩
    · refine ga_dload_n dX10_share_23 rfl ?_
      refine ga_dconst1 dX10_share_24 ?_
      refine ga_dcmp dX10_share_25 (ga_ofI _).symm (ga_inI32 _) ?_
      refine ga_if_le (tgt := 39) dX10_share_26 rfl (fun c_26 => ?_) (fun c_26 => ?_)
      · refine ga_aload_n dX10_share_39 rfl ?_
        refine hg_getR grX10_10 dX10_share_40 rfl rfl ?_
        refine hg_getR grX10_128 dX10_share_43 rfl rfl ?_
        refine ga_iload_n dX10_share_46 rfl ?_
        refine ga_dload_n dX10_share_47 rfl ?_
        refine hc_V (T_X4_setShare kd v σ c_4.1 c_4.2) fX4_setShare rfl kX4_setShare lkX10_139 dX10_share_48 rfl rfl rfl rfl rfl rfl rfl rfl ?_
        refine ga_ret (v := some _) ?_ rfl (by decide) (by decide) ⟨dX10_share_51, _, rfl, tv_nb⟩
        exact ⟨⟨c_4, c_20, c_26⟩, rfl, rfl⟩
      · refine ga_throw (text := "no such share") tf_78 (by decide +kernel) rfl dX10_share_29 dX10_share_32 dX10_share_33 dX10_share_35 dX10_share_38 (by decide) (Nat.le_of_ble_eq_true rfl) (by decide) (by decide) ?_
        exact ⟨Or.inr ⟨c_4, fun z => c_26 z.2, rfl⟩, rfl⟩
  · rw [tv_eq0] at c_4
    refine ga_throw (text := "no such kind") tf_91 (by decide +kernel) rfl dX10_share_7 dX10_share_10 dX10_share_11 dX10_share_13 dX10_share_16 (by decide) (Nat.le_of_ble_eq_true rfl) (by decide) (by decide) ?_
    exact ⟨Or.inl ⟨c_4, rfl⟩, rfl⟩
