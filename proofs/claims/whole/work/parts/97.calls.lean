-- the reference: net, device, pin
theorem cd0_st {σ : ga_S} {a b : Int} : cd0 (cd0 σ a) b = cd0 σ b := by
  show stI (stI σ 63 (ga_up (σ.1 63) 0 a)) 63 (ga_up (ga_up (σ.1 63) 0 a) 0 b) = _
  rw [stI_st, ga_up_up]
theorem cd0_0 {σ : ga_S} {a : Int} : (cd0 σ a).1 63 0 = a := rfl
theorem cd0_j {σ : ga_S} {a j : Int} (h : j ≠ 0) : (cd0 σ a).1 63 j = σ.1 63 j := by
  show ga_up (σ.1 63) 0 a j = _
  rw [ga_up_ne _ _ h]
theorem cd0_core {σ : ga_S} {a : Int} : core (cd0 σ a) = core σ := core_exc (L := [63]) (exc_st exc_r (by decide)) (by decide)
noncomputable def nCo (σ : ga_S) (s y : Int) : Int := if ¬ (s = 0 ∨ s = 1) then 1 else if σ.1 65 s = 40 then 2 else if y < 0 then 3 else 0
def nSt (σ : ga_S) (s : Int) : ga_S := stI (stI (cd0 σ 0) 64 (ga_up (σ.1 64) (40 * s + σ.1 65 s) (-1))) 65 (ga_up (σ.1 65) s (σ.1 65 s + 1))
theorem T_X11_net (s y : Int) (σ : ga_S) (h : s = 0 ∨ s = 1 → 0 ≤ σ.1 65 s ∧ σ.1 65 s ≤ 40) : ga_Mt 1 0 0 mX11_net [Vr 63, Vi s, Vi y] (HP σ) (fun v h => (nCo σ s y = 0 ∧ v = some (Vi (σ.1 65 s)) ∧ h = HP (nSt σ s)) ∨ (nCo σ s y ≠ 0 ∧ v = some (Vi 0) ∧ h = HP (cd0 σ (nCo σ s y)))) ga_nox := by
  refine ga_meth [some (Vr 63), some (Vi s), some (Vi y)] rfl rfl (by decide +kernel) (Nat.le_of_ble_eq_true rfl) rfl ?_
  have E : ∀ c : Int, 0 < c → c = nCo σ s y → ga_W 1 0 0 0 0 mX11_net (fun v h => (nCo σ s y = 0 ∧ v = some (Vi (σ.1 65 s)) ∧ h = HP (nSt σ s)) ∨ (nCo σ s y ≠ 0 ∧ v = some (Vi 0) ∧ h = HP (cd0 σ (nCo σ s y)))) ga_nox 36 [some (Vr 63), some (Vi s), some (Vi y)] [Vi c, Vr 63] (HP σ) := by
    intro c c0 hc
    refine hg_putI 0 gfX11_84 dX11_net_36 rfl rfl rfl ?_
    refine ga_aload_n dX11_net_39 rfl ?_
    refine hg_getI 0 grX11_84 dX11_net_40 rfl rfl rfl ?_
    refine ga_if_le (tgt := 48) dX11_net_43 rfl (fun c_43 => ?_) (fun c_43 => ?_)
    · exact absurd (show c ≤ 0 from c_43) (by omega)
    · refine ga_iconst dX11_net_46 ⟨by decide, by decide⟩ ?_
      refine ga_ret (v := some _) ?_ rfl (by decide) (by decide) ⟨dX11_net_47, _, rfl, rfl⟩
      exact Or.inr ⟨by omega, rfl, by rw [← hc]⟩
  refine ga_aload_n dX11_net_0 rfl ?_
  refine ga_iload_n dX11_net_1 rfl ?_
  refine hc_S (T_X11_isSide s _) fX11_isSide rfl kX11_isSide lkX11_88 dX11_net_2 rfl rfl rfl rfl rfl rfl ?_
  refine ga_if_ne (tgt := 12) dX11_net_5 rfl (fun c_5 => ?_) (fun c_5 => ?_)
  · rw [tv_ne0] at c_5
    have hb := h c_5
    refine ga_aload_n dX11_net_12 rfl ?_
    refine hg_getR grX11_13 dX11_net_13 rfl rfl ?_
    refine ga_iload_n dX11_net_16 rfl ?_
    refine hg_iald dX11_net_17 rfl (by omega) (by omega) ?_
    refine ga_bipush dX11_net_18 ⟨by decide, by decide⟩ (by decide) ?_
    refine ga_icmp_ne (tgt := 27) dX11_net_20 rfl (fun c_20 => ?_) (fun c_20 => ?_)
    · refine ga_iload_n dX11_net_27 rfl ?_
      refine ga_if_ge (tgt := 35) dX11_net_28 rfl (fun c_28 => ?_) (fun c_28 => ?_)
      · have e0 : nCo σ s y = 0 := by unfold nCo; rw [if_neg (fun w => w c_5), if_neg c_20, if_neg (by omega)]
        refine ga_iconst dX11_net_35 ⟨by decide, by decide⟩ ?_
        refine hg_putI 0 gfX11_84 dX11_net_36 rfl rfl rfl ?_
        refine ga_aload_n dX11_net_39 rfl ?_
        refine hg_getI 0 grX11_84 dX11_net_40 rfl rfl rfl ?_
        refine ga_if_le (tgt := 48) dX11_net_43 rfl (fun c_43 => ?_) (fun c_43 => ?_)
        · have k65 : (cd0 σ 0).1 65 = σ.1 65 := rfl
          refine ga_eqh (h2 := HP (cd0 σ 0)) rfl ?_
          refine ga_aload_n dX11_net_48 rfl ?_
          refine hg_getR grX11_7 dX11_net_49 rfl rfl ?_
          refine ga_bipush dX11_net_52 ⟨by decide, by decide⟩ (by decide) ?_
          refine ga_iload_n dX11_net_54 rfl ?_
          refine ga_imul dX11_net_55 rfl (⟨by omega, by omega⟩) ?_
          refine ga_aload_n dX11_net_56 rfl ?_
          refine hg_getR grX11_13 dX11_net_57 rfl rfl ?_
          refine ga_iload_n dX11_net_60 rfl ?_
          refine hg_iald dX11_net_61 rfl (by omega) (by omega) ?_
          rw [k65]
          refine ga_iadd (z := (40 * s + σ.1 65 s)) dX11_net_62 (by omega) (⟨by omega, by omega⟩) ?_
          refine ga_iconst dX11_net_63 ⟨by decide, by decide⟩ ?_
          refine hg_iast dX11_net_64 rfl (by omega) (by omega) ?_
          refine ga_aload_n dX11_net_65 rfl ?_
          refine hg_getR grX11_13 dX11_net_66 rfl rfl ?_
          have j65 : (stI (cd0 σ 0) 64 (ga_up ((cd0 σ 0).1 64) (40 * s + σ.1 65 s) (-1))).1 65 = σ.1 65 := rfl
          refine ga_iload_n dX11_net_69 rfl ?_
          refine ga_dup2 dX11_net_70 rfl rfl ?_
          refine hg_iald dX11_net_71 rfl (by omega) (by omega) ?_
          rw [j65]
          refine ga_iconst dX11_net_72 ⟨by decide, by decide⟩ ?_
          refine ga_iadd dX11_net_73 rfl (⟨by omega, by omega⟩) ?_
          refine hg_iast dX11_net_74 rfl (by omega) (by omega) ?_
          refine ga_aload_n dX11_net_75 rfl ?_
          refine hg_getR grX11_13 dX11_net_76 rfl rfl ?_
          refine ga_iload_n dX11_net_79 rfl ?_
          refine hg_iald dX11_net_80 rfl (by omega) (by omega) ?_
          rw [stI_at, ga_up_at]
          refine ga_iconst dX11_net_81 ⟨by decide, by decide⟩ ?_
          refine ga_isub (z := (σ.1 65 s)) dX11_net_82 (by omega) (⟨by omega, by omega⟩) ?_
          refine ga_ret (v := some _) ?_ rfl (by decide) (by decide) ⟨dX11_net_83, _, rfl, rfl⟩
          exact Or.inl ⟨e0, rfl, rfl⟩
        · exact absurd c_43 (by rw [show (stI σ 63 (ga_up (σ.1 63) 0 0)).1 63 0 = 0 from rfl]; decide)
      · refine ga_iconst dX11_net_31 ⟨by decide, by decide⟩ ?_
        refine ga_goto (tgt := 36) dX11_net_32 rfl ?_
        exact E 3 (by decide) (by unfold nCo; rw [if_neg (fun w => w c_5), if_neg c_20, if_pos (by omega)])
    · refine ga_iconst dX11_net_23 ⟨by decide, by decide⟩ ?_
      refine ga_goto (tgt := 36) dX11_net_24 rfl ?_
      exact E 2 (by decide) (by unfold nCo; rw [if_neg (fun w => w c_5), if_pos c_20])
  · rw [tv_eq0] at c_5
    refine ga_iconst dX11_net_8 ⟨by decide, by decide⟩ ?_
    refine ga_goto (tgt := 36) dX11_net_9 rfl ?_
    exact E 1 (by decide) (by unfold nCo; rw [if_pos c_5])
noncomputable def dCo (σ : ga_S) (s kd : Int) (z : UInt64) : Int := if ¬ ((s = 0 ∨ s = 1) ∧ 0 ≤ kd ∧ kd < 8) then 1 else if σ.1 70 s = 30 then 2 else if ¬ dcl z FP.dconst0 ≤ 0 ∧ dcg z 4696837146684686336 ≤ 0 then 0 else 3
def fl4 (f : Int → Int) (a n : Int) : Int → Int := fun j => if 4 * a ≤ j ∧ j < 4 * a + n then -1 else f j
theorem fl4_0 (f : Int → Int) (a : Int) : fl4 f a ((0 : Nat) : Int) = f := by
  funext j; unfold fl4; rw [if_neg (by omega)]
theorem fl4_s (f : Int → Int) (a : Int) (n : Nat) : ga_up (fl4 f a n) (4 * a + n) (-1) = fl4 f a ((n + 1 : Nat) : Int) := by
  funext j
  unfold ga_up fl4
  by_cases q : j = 4 * a + n
  · rw [if_pos q, if_pos (by omega)]
  · rw [if_neg q]
    by_cases q2 : 4 * a ≤ j ∧ j < 4 * a + n
    · rw [if_pos q2, if_pos (by omega)]
    · rw [if_neg q2, if_neg (by omega)]
/-- what device leaves, without its pins and what follows -/
def dSa (σ : ga_S) (s kd : Int) (z : UInt64) : ga_S := stI (stD (stI (cd0 σ 0) 66 (ga_up (σ.1 66) (30 * s + σ.1 70 s) kd)) 67 (ga_up (σ.2 67) (30 * s + σ.1 70 s) z)) 68 (ga_up (σ.1 68) (30 * s + σ.1 70 s) 0)
def dSt (σ : ga_S) (s kd : Int) (z : UInt64) : ga_S := stI (stI (stI (dSa σ s kd z) 69 (fl4 (σ.1 69) (30 * s + σ.1 70 s) (4 : Nat))) 78 (ga_up (σ.1 78) (30 * s + σ.1 70 s) (-1))) 70 (ga_up (σ.1 70) s (σ.1 70 s + 1))
theorem T_X11_device (s kd : Int) (z : UInt64) (σ : ga_S) (h : s = 0 ∨ s = 1 → 0 ≤ σ.1 70 s ∧ σ.1 70 s ≤ 30) : ga_Mt 1 0 0 mX11_device [Vr 63, Vi s, Vi kd, Vd z] (HP σ) (fun v h => (dCo σ s kd z = 0 ∧ v = some (Vi (σ.1 70 s)) ∧ h = HP (dSt σ s kd z)) ∨ (dCo σ s kd z ≠ 0 ∧ v = some (Vi 0) ∧ h = HP (cd0 σ (dCo σ s kd z)))) ga_nox := by
  refine ga_meth [some (Vr 63), some (Vi s), some (Vi kd), some (Vd z), none, none, none] rfl rfl (by decide +kernel) (Nat.le_of_ble_eq_true rfl) rfl ?_
  have E : ∀ c : Int, 0 < c → c = dCo σ s kd z → ga_W 1 0 0 0 0 mX11_device (fun v h => (dCo σ s kd z = 0 ∧ v = some (Vi (σ.1 70 s)) ∧ h = HP (dSt σ s kd z)) ∨ (dCo σ s kd z ≠ 0 ∧ v = some (Vi 0) ∧ h = HP (cd0 σ (dCo σ s kd z)))) ga_nox 53 [some (Vr 63), some (Vi s), some (Vi kd), some (Vd z), none, none, none] [Vi c, Vr 63] (HP σ) := by
    intro c c0 hc
    refine hg_putI 0 gfX11_84 dX11_device_53 rfl rfl rfl ?_
    refine ga_aload_n dX11_device_56 rfl ?_
    refine hg_getI 0 grX11_84 dX11_device_57 rfl rfl rfl ?_
    refine ga_if_le (tgt := 65) dX11_device_60 rfl (fun c_60 => ?_) (fun c_60 => ?_)
    · exact absurd (show c ≤ 0 from c_60) (by omega)
    · refine ga_iconst dX11_device_63 ⟨by decide, by decide⟩ ?_
      refine ga_ret (v := some _) ?_ rfl (by decide) (by decide) ⟨dX11_device_64, _, rfl, rfl⟩
      exact Or.inr ⟨by omega, rfl, by rw [← hc]⟩
  refine ga_aload_n dX11_device_0 rfl ?_
  refine ga_iload_n dX11_device_1 rfl ?_
  refine hc_S (T_X11_isSide s _) fX11_isSide rfl kX11_isSide lkX11_88 dX11_device_2 rfl rfl rfl rfl rfl rfl ?_
  refine ga_if_eq (tgt := 15) dX11_device_5 rfl (fun c_5 => ?_) (fun c_5 => ?_)
  · rw [tv_eq0] at c_5
    refine ga_iconst dX11_device_15 ⟨by decide, by decide⟩ ?_
    refine ga_goto (tgt := 53) dX11_device_16 rfl ?_
    exact E 1 (by decide) (by unfold dCo; rw [if_pos (fun w => c_5 w.1)])
  · rw [tv_ne0] at c_5
    have hb := h c_5
    refine ga_iload_n dX11_device_8 rfl ?_
    refine hc_S (T_X11_isKind kd _) fX11_isKind rfl kX11_isKind lkX11_92 dX11_device_9 rfl rfl rfl rfl rfl rfl ?_
    refine ga_if_ne (tgt := 19) dX11_device_12 rfl (fun c_12 => ?_) (fun c_12 => ?_)
    rotate_left
    · rw [tv_eq0] at c_12
      refine ga_iconst dX11_device_15 ⟨by decide, by decide⟩ ?_
      refine ga_goto (tgt := 53) dX11_device_16 rfl ?_
      exact E 1 (by decide) (by unfold dCo; rw [if_pos (fun w => c_12 w.2)])
    · rw [tv_ne0] at c_12
      refine ga_aload_n dX11_device_19 rfl ?_
      refine hg_getR grX11_30 dX11_device_20 rfl rfl ?_
      refine ga_iload_n dX11_device_23 rfl ?_
      refine hg_iald dX11_device_24 rfl (by omega) (by omega) ?_
      refine ga_bipush dX11_device_25 ⟨by decide, by decide⟩ (by decide) ?_
      refine ga_icmp_ne (tgt := 34) dX11_device_27 rfl (fun c_27 => ?_) (fun c_27 => ?_)
      rotate_left
      · refine ga_iconst dX11_device_30 ⟨by decide, by decide⟩ ?_
        refine ga_goto (tgt := 53) dX11_device_31 rfl ?_
        exact E 2 (by decide) (by unfold dCo; rw [if_neg (fun w => w ⟨c_5, c_12⟩), if_pos c_27])
      · refine ga_dload_n dX11_device_34 rfl ?_
        refine ga_dconst0 dX11_device_35 ?_
        refine ga_dcmp dX11_device_36 (ga_ofI _).symm (ga_inI32 _) ?_
        refine ga_if_le (tgt := 52) dX11_device_37 rfl (fun c_37 => ?_) (fun c_37 => ?_)
        · refine ga_iconst dX11_device_52 ⟨by decide, by decide⟩ ?_
          exact E 3 (by decide) (by unfold dCo; rw [if_neg (fun w => w ⟨c_5, c_12⟩), if_neg c_27, if_neg (fun w => w.1 c_37)])
        · refine ga_dload_n dX11_device_40 rfl ?_
          refine ga_ldc2d dX11_device_41 cnX11_95 ?_
          refine ga_dcmp dX11_device_44 (ga_ofI _).symm (ga_inI32 _) ?_
          refine ga_if_gt (tgt := 52) dX11_device_45 rfl (fun c_45 => ?_) (fun c_45 => ?_)
          · refine ga_iconst dX11_device_52 ⟨by decide, by decide⟩ ?_
            exact E 3 (by decide) (by unfold dCo; rw [if_neg (fun w => w ⟨c_5, c_12⟩), if_neg c_27, if_neg (fun w => c_45 w.2)])
          · have e0 : dCo σ s kd z = 0 := by unfold dCo; rw [if_neg (fun w => w ⟨c_5, c_12⟩), if_neg c_27, if_pos ⟨c_37, c_45⟩]
            refine ga_iconst dX11_device_48 ⟨by decide, by decide⟩ ?_
            refine ga_goto (tgt := 53) dX11_device_49 rfl ?_
            refine hg_putI 0 gfX11_84 dX11_device_53 rfl rfl rfl ?_
            refine ga_aload_n dX11_device_56 rfl ?_
            refine hg_getI 0 grX11_84 dX11_device_57 rfl rfl rfl ?_
            refine ga_if_le (tgt := 65) dX11_device_60 rfl (fun c_60 => ?_) (fun c_60 => ?_)
            rotate_left
            · exact absurd c_60 (by rw [show (stI σ 63 (ga_up (σ.1 63) 0 0)).1 63 0 = 0 from rfl]; decide)
            · have k70 : (cd0 σ 0).1 70 = σ.1 70 := rfl
              refine ga_eqh (h2 := HP (cd0 σ 0)) rfl ?_
              refine ga_bipush dX11_device_65 ⟨by decide, by decide⟩ (by decide) ?_
              refine ga_iload_n dX11_device_67 rfl ?_
              refine ga_imul dX11_device_68 rfl (⟨by omega, by omega⟩) ?_
              refine ga_aload_n dX11_device_69 rfl ?_
              refine hg_getR grX11_30 dX11_device_70 rfl rfl ?_
              refine ga_iload_n dX11_device_73 rfl ?_
              refine hg_iald dX11_device_74 rfl (by omega) (by omega) ?_
              rw [k70]
              refine ga_iadd (z := (30 * s + σ.1 70 s)) dX11_device_75 (by omega) (⟨by omega, by omega⟩) ?_
              refine ga_istore (lv2 := [_, _, _, _, _, _, _]) dX11_device_76 (by decide) rfl rfl ?_
              refine ga_aload_n dX11_device_78 rfl ?_
              refine hg_getR grX11_16 dX11_device_79 rfl rfl ?_
              refine ga_iload dX11_device_82 rfl ?_
              refine ga_iload_n dX11_device_84 rfl ?_
              refine hg_iast dX11_device_85 rfl (by omega) (by omega) ?_
              refine ga_aload_n dX11_device_86 rfl ?_
              refine hg_getR grX11_19 dX11_device_87 rfl rfl ?_
              refine ga_iload dX11_device_90 rfl ?_
              refine ga_dload_n dX11_device_92 rfl ?_
              refine hg_dast dX11_device_93 rfl (by omega) (by omega) ?_
              refine ga_aload_n dX11_device_94 rfl ?_
              refine hg_getR grX11_23 dX11_device_95 rfl rfl ?_
              refine ga_iload dX11_device_98 rfl ?_
              refine ga_iconst dX11_device_100 ⟨by decide, by decide⟩ ?_
              refine hg_zast dX11_device_101 rfl (by omega) (by omega) (by omega) ?_
              refine ga_iconst dX11_device_102 ⟨by decide, by decide⟩ ?_
              refine ga_istore (lv2 := [_, _, _, _, _, _, _]) dX11_device_103 (by decide) rfl rfl ?_
              refine ga_eqh (h2 := HP (stI (dSa σ s kd z) 69 (fl4 (σ.1 69) (30 * s + σ.1 70 s) ((0 : Nat) : Int)))) (by rw [fl4_0]; exact congrArg HP (stI_self (dSa σ s kd z) 69).symm) ?_
              refine (ga_loop 4 (fun i => ga_W 1 0 0 0 0 mX11_device (fun v h => (dCo σ s kd z = 0 ∧ v = some (Vi (σ.1 70 s)) ∧ h = HP (dSt σ s kd z)) ∨ (dCo σ s kd z ≠ 0 ∧ v = some (Vi 0) ∧ h = HP (cd0 σ (dCo σ s kd z)))) ga_nox 105 [some (Vr 63), some (Vi s), some (Vi kd), some (Vd z), none, some (Vi (30 * s + σ.1 70 s)), some (Vi (i : Int))] [] (HP (stI (dSa σ s kd z) 69 (fl4 (σ.1 69) (30 * s + σ.1 70 s) i)))) ?_ ?_ 0 (Nat.zero_le _) : _)
              · refine ga_iload dX11_device_105 rfl ?_
                refine ga_iconst dX11_device_107 ⟨by decide, by decide⟩ ?_
                refine ga_icmp_ge (tgt := 130) dX11_device_108 rfl (fun c_108 => ?_) (fun c_108 => ?_)
                · refine ga_aload_n dX11_device_130 rfl ?_
                  refine hg_getR grX11_54 dX11_device_131 rfl rfl ?_
                  refine ga_iload dX11_device_134 rfl ?_
                  refine ga_iconst dX11_device_136 ⟨by decide, by decide⟩ ?_
                  refine hg_iast dX11_device_137 rfl (by omega) (by omega) ?_
                  refine ga_aload_n dX11_device_138 rfl ?_
                  refine hg_getR grX11_30 dX11_device_139 rfl rfl ?_
                  have j70 : (stI (stI (dSa σ s kd z) 69 (fl4 (σ.1 69) (30 * s + σ.1 70 s) (4 : Nat))) 78 (ga_up ((stI (dSa σ s kd z) 69 (fl4 (σ.1 69) (30 * s + σ.1 70 s) (4 : Nat))).1 78) (30 * s + σ.1 70 s) (-1))).1 70 = σ.1 70 := rfl
                  refine ga_iload_n dX11_device_142 rfl ?_
                  refine ga_dup2 dX11_device_143 rfl rfl ?_
                  refine hg_iald dX11_device_144 rfl (by omega) (by omega) ?_
                  rw [j70]
                  refine ga_iconst dX11_device_145 ⟨by decide, by decide⟩ ?_
                  refine ga_iadd dX11_device_146 rfl (⟨by omega, by omega⟩) ?_
                  refine hg_iast dX11_device_147 rfl (by omega) (by omega) ?_
                  refine ga_aload_n dX11_device_148 rfl ?_
                  refine hg_getR grX11_30 dX11_device_149 rfl rfl ?_
                  refine ga_iload_n dX11_device_152 rfl ?_
                  refine hg_iald dX11_device_153 rfl (by omega) (by omega) ?_
                  rw [stI_at, ga_up_at]
                  refine ga_iconst dX11_device_154 ⟨by decide, by decide⟩ ?_
                  refine ga_isub (z := (σ.1 70 s)) dX11_device_155 (by omega) (⟨by omega, by omega⟩) ?_
                  refine ga_ret (v := some _) ?_ rfl (by decide) (by decide) ⟨dX11_device_156, _, rfl, rfl⟩
                  exact Or.inl ⟨e0, rfl, rfl⟩
                · omega
              · intro i hi k
                rw [← fl4_s _ _ i] at k
                refine ga_iload dX11_device_105 rfl ?_
                refine ga_iconst dX11_device_107 ⟨by decide, by decide⟩ ?_
                refine ga_icmp_ge (tgt := 130) dX11_device_108 rfl (fun c_108 => ?_) (fun c_108 => ?_)
                · omega
                · refine ga_aload_n dX11_device_111 rfl ?_
                  refine hg_getR grX11_27 dX11_device_112 rfl rfl ?_
                  refine ga_iconst dX11_device_115 ⟨by decide, by decide⟩ ?_
                  refine ga_iload dX11_device_116 rfl ?_
                  refine ga_imul dX11_device_118 rfl (⟨by omega, by omega⟩) ?_
                  refine ga_iload dX11_device_119 rfl ?_
                  refine ga_iadd (z := (4 * (30 * s + σ.1 70 s) + (i : Int))) dX11_device_121 (by omega) (⟨by omega, by omega⟩) ?_
                  refine ga_iconst dX11_device_122 ⟨by decide, by decide⟩ ?_
                  refine hg_iast dX11_device_123 rfl (by omega) (by omega) ?_
                  refine ga_iinc (z := ((i + 1 : Nat) : Int)) (lv2 := [_, _, _, _, _, _, _]) dX11_device_124 (by decide) rfl rfl (by omega) (⟨by omega, by omega⟩) rfl ?_
                  refine ga_goto (tgt := 105) dX11_device_127 rfl ?_
                  rw [stI_st, stI_at]
                  exact k
def piP (σ : ga_S) (s d k n : Int) : Prop := (((s = 0 ∨ s = 1) ∧ 0 ≤ d ∧ d < σ.1 70 s) ∧ σ.1 68 (30 * s + d) = 0) ∧ (0 ≤ k ∧ k < 4) ∧ (n = -1 ∨ ((s = 0 ∨ s = 1) ∧ 0 ≤ n ∧ n < σ.1 65 s))
def piS (σ : ga_S) (s d k n : Int) : ga_S := stI (cd0 σ 0) 69 (ga_up (σ.1 69) (4 * (30 * s + d) + k) n)
theorem T_X11_pin (s d k n : Int) (σ : ga_S) (h : s = 0 ∨ s = 1 → σ.1 70 s ≤ 30) : ga_Mt 2 0 0 mX11_pin [Vr 63, Vi s, Vi d, Vi k, Vi n] (HP σ) (fun v h => (piP σ s d k n ∧ v = some (Vi (tv (σ.1 69 (4 * (30 * s + d) + k) ≠ n))) ∧ h = HP (piS σ s d k n)) ∨ (¬ piP σ s d k n ∧ v = some (Vi 0) ∧ h = HP (cd0 σ 1))) ga_nox := by
  refine ga_meth [some (Vr 63), some (Vi s), some (Vi d), some (Vi k), some (Vi n), none, none] rfl rfl (by decide +kernel) (Nat.le_of_ble_eq_true rfl) rfl ?_
  have E : ¬ piP σ s d k n → ga_W 2 0 0 0 0 mX11_pin (fun v h => (piP σ s d k n ∧ v = some (Vi (tv (σ.1 69 (4 * (30 * s + d) + k) ≠ n))) ∧ h = HP (piS σ s d k n)) ∨ (¬ piP σ s d k n ∧ v = some (Vi 0) ∧ h = HP (cd0 σ 1))) ga_nox 47 [some (Vr 63), some (Vi s), some (Vi d), some (Vi k), some (Vi n), none, none] [Vr 63] (HP σ) := by
    intro hn
    refine ga_iconst dX11_pin_47 ⟨by decide, by decide⟩ ?_
    refine ga_goto (tgt := 52) dX11_pin_48 rfl ?_
    refine hg_putI 0 gfX11_84 dX11_pin_52 rfl rfl rfl ?_
    refine ga_aload_n dX11_pin_55 rfl ?_
    refine hg_getI 0 grX11_84 dX11_pin_56 rfl rfl rfl ?_
    refine ga_if_le (tgt := 64) dX11_pin_59 rfl (fun c_59 => ?_) (fun c_59 => ?_)
    · exact absurd (show (1 : Int) ≤ 0 from c_59) (by decide)
    · refine ga_iconst dX11_pin_62 ⟨by decide, by decide⟩ ?_
      refine ga_ret (v := some _) ?_ rfl (by decide) (by decide) ⟨dX11_pin_63, _, rfl, rfl⟩
      exact Or.inr ⟨hn, rfl, rfl⟩
  have G : piP σ s d k n → ga_W 2 0 0 0 0 mX11_pin (fun v h => (piP σ s d k n ∧ v = some (Vi (tv (σ.1 69 (4 * (30 * s + d) + k) ≠ n))) ∧ h = HP (piS σ s d k n)) ∨ (¬ piP σ s d k n ∧ v = some (Vi 0) ∧ h = HP (cd0 σ 1))) ga_nox 51 [some (Vr 63), some (Vi s), some (Vi d), some (Vi k), some (Vi n), none, none] [Vr 63] (HP σ) := by
    intro hy
    have hy' := hy
    obtain ⟨⟨⟨s1, d1, d2⟩, g⟩, ⟨k1, k2⟩, hn⟩ := hy'
    have hb := h s1
    refine ga_iconst dX11_pin_51 ⟨by decide, by decide⟩ ?_
    refine hg_putI 0 gfX11_84 dX11_pin_52 rfl rfl rfl ?_
    refine ga_aload_n dX11_pin_55 rfl ?_
    refine hg_getI 0 grX11_84 dX11_pin_56 rfl rfl rfl ?_
    refine ga_if_le (tgt := 64) dX11_pin_59 rfl (fun c_59 => ?_) (fun c_59 => ?_)
    rotate_left
    · exact absurd c_59 (by rw [show (stI σ 63 (ga_up (σ.1 63) 0 0)).1 63 0 = 0 from rfl]; decide)
    · have k69 : (cd0 σ 0).1 69 = σ.1 69 := rfl
      refine ga_eqh (h2 := HP (cd0 σ 0)) rfl ?_
      refine ga_iconst dX11_pin_64 ⟨by decide, by decide⟩ ?_
      refine ga_bipush dX11_pin_65 ⟨by decide, by decide⟩ (by decide) ?_
      refine ga_iload_n dX11_pin_67 rfl ?_
      refine ga_imul dX11_pin_68 rfl (⟨by omega, by omega⟩) ?_
      refine ga_iload_n dX11_pin_69 rfl ?_
      refine ga_iadd (z := (30 * s + d)) dX11_pin_70 (by omega) (⟨by omega, by omega⟩) ?_
      refine ga_imul (z := (4 * (30 * s + d))) dX11_pin_71 (by omega) (⟨by omega, by omega⟩) ?_
      refine ga_iload_n dX11_pin_72 rfl ?_
      refine ga_iadd (z := (4 * (30 * s + d) + k)) dX11_pin_73 (by omega) (⟨by omega, by omega⟩) ?_
      refine ga_istore (lv2 := [_, _, _, _, _, _, _]) dX11_pin_74 (by decide) rfl rfl ?_
      refine ga_aload_n dX11_pin_76 rfl ?_
      refine hg_getR grX11_27 dX11_pin_77 rfl rfl ?_
      refine ga_iload dX11_pin_80 rfl ?_
      refine hg_iald dX11_pin_82 rfl (by omega) (by omega) ?_
      rw [k69]
      refine ga_iload dX11_pin_83 rfl ?_
      refine ga_icmp_eq (tgt := 92) dX11_pin_85 rfl (fun c_85 => ?_) (fun c_85 => ?_)
      · refine ga_iconst dX11_pin_92 ⟨by decide, by decide⟩ ?_
        refine ga_istore (lv2 := [_, _, _, _, _, _, _]) dX11_pin_93 (by decide) rfl rfl ?_
        refine ga_aload_n dX11_pin_95 rfl ?_
        refine hg_getR grX11_27 dX11_pin_96 rfl rfl ?_
        refine ga_iload dX11_pin_99 rfl ?_
        refine ga_iload dX11_pin_101 rfl ?_
        refine hg_iast dX11_pin_103 rfl (by omega) (by omega) ?_
        refine ga_iload dX11_pin_104 rfl ?_
        refine ga_ret (v := some _) ?_ rfl (by decide) (by decide) ⟨dX11_pin_106, _, rfl, rfl⟩
        refine Or.inl ⟨hy, tvf (fun w => w c_85), rfl⟩
      · refine ga_iconst dX11_pin_88 ⟨by decide, by decide⟩ ?_
        refine ga_goto (tgt := 93) dX11_pin_89 rfl ?_
        refine ga_istore (lv2 := [_, _, _, _, _, _, _]) dX11_pin_93 (by decide) rfl rfl ?_
        refine ga_aload_n dX11_pin_95 rfl ?_
        refine hg_getR grX11_27 dX11_pin_96 rfl rfl ?_
        refine ga_iload dX11_pin_99 rfl ?_
        refine ga_iload dX11_pin_101 rfl ?_
        refine hg_iast dX11_pin_103 rfl (by omega) (by omega) ?_
        refine ga_iload dX11_pin_104 rfl ?_
        refine ga_ret (v := some _) ?_ rfl (by decide) (by decide) ⟨dX11_pin_106, _, rfl, rfl⟩
        exact Or.inl ⟨hy, tvt c_85, rfl⟩
  refine ga_aload_n dX11_pin_0 rfl ?_
  refine ga_aload_n dX11_pin_1 rfl ?_
  refine ga_iload_n dX11_pin_2 rfl ?_
  refine ga_iload_n dX11_pin_3 rfl ?_
  refine hc_V (T_X11_isDevice s d σ) fX11_isDevice rfl kX11_isDevice lkX11_97 dX11_pin_4 rfl rfl rfl rfl rfl rfl rfl rfl ?_
  refine ga_if_eq (tgt := 47) dX11_pin_7 rfl (fun c_7 => ?_) (fun c_7 => ?_)
  · rw [tv_eq0] at c_7
    exact E (fun w => c_7 w.1.1)
  · rw [tv_ne0] at c_7
    have hb := h c_7.1
    have d1 := c_7.2
    have s1 := c_7.1
    refine ga_aload_n dX11_pin_10 rfl ?_
    refine hg_getR grX11_23 dX11_pin_11 rfl rfl ?_
    refine ga_bipush dX11_pin_14 ⟨by decide, by decide⟩ (by decide) ?_
    refine ga_iload_n dX11_pin_16 rfl ?_
    refine ga_imul dX11_pin_17 rfl (⟨by omega, by omega⟩) ?_
    refine ga_iload_n dX11_pin_18 rfl ?_
    refine ga_iadd (z := (30 * s + d)) dX11_pin_19 (by omega) (⟨by omega, by omega⟩) ?_
    refine hg_zald dX11_pin_20 rfl (by omega) (by omega) ?_
    refine ga_if_ne (tgt := 47) dX11_pin_21 rfl (fun c_21 => ?_) (fun c_21 => ?_)
    · exact E (fun w => c_21 w.1.2)
    · refine ga_iload_n dX11_pin_24 rfl ?_
      refine hc_S (T_X11_isPin k _) fX11_isPin rfl kX11_isPin lkX11_101 dX11_pin_25 rfl rfl rfl rfl rfl rfl ?_
      refine ga_if_eq (tgt := 47) dX11_pin_28 rfl (fun c_28 => ?_) (fun c_28 => ?_)
      · rw [tv_eq0] at c_28
        exact E (fun w => c_28 w.2.1)
      · rw [tv_ne0] at c_28
        refine ga_iload dX11_pin_31 rfl ?_
        refine ga_iconst dX11_pin_33 ⟨by decide, by decide⟩ ?_
        refine ga_icmp_eq (tgt := 51) dX11_pin_34 rfl (fun c_34 => ?_) (fun c_34 => ?_)
        · exact G ⟨⟨c_7, c_21⟩, c_28, Or.inl c_34⟩
        · refine ga_aload_n dX11_pin_37 rfl ?_
          refine ga_iload_n dX11_pin_38 rfl ?_
          refine ga_iload dX11_pin_39 rfl ?_
          refine hc_V (T_X11_isNet s n σ) fX11_isNet rfl kX11_isNet lkX11_104 dX11_pin_41 rfl rfl rfl rfl rfl rfl rfl rfl ?_
          refine ga_if_ne (tgt := 51) dX11_pin_44 rfl (fun c_44 => ?_) (fun c_44 => ?_)
          · rw [tv_ne0] at c_44
            exact G ⟨⟨c_7, c_21⟩, c_28, Or.inr c_44⟩
          · rw [tv_eq0] at c_44
            exact E (fun w => w.2.2.elim c_34 c_44)
