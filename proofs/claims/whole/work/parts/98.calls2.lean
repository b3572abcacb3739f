-- the reference: swap, share, port, match, netMatch, differs, rounds, tried
def swP (kd a b : Int) : Prop := (0 ≤ kd ∧ kd < 8) ∧ (0 ≤ a ∧ a < 4) ∧ 0 ≤ b ∧ b < 4
def swS (σ : ga_S) (kd a b : Int) : ga_S := stI (cd0 σ 0) 71 (unF (σ.1 71) kd (σ.1 71 (kd * 4 + a)) (σ.1 71 (kd * 4 + b)) 4)
theorem T_X11_swap (kd a b : Int) (σ : ga_S) : ga_Mt 1 0 0 mX11_swap [Vr 63, Vi kd, Vi a, Vi b] (HP σ) (fun v h => (swP kd a b ∧ v = some (Vi (tv (σ.1 71 (kd * 4 + a) ≠ σ.1 71 (kd * 4 + b)))) ∧ h = HP (swS σ kd a b)) ∨ (¬ swP kd a b ∧ v = some (Vi 0) ∧ h = HP (cd0 σ 1))) ga_nox := by
  refine ga_meth [some (Vr 63), some (Vi kd), some (Vi a), some (Vi b), none, none, none] rfl rfl (by decide +kernel) (Nat.le_of_ble_eq_true rfl) rfl ?_
  have E : ¬ swP kd a b → ga_W 1 0 0 0 0 mX11_swap (fun v h => (swP kd a b ∧ v = some (Vi (tv (σ.1 71 (kd * 4 + a) ≠ σ.1 71 (kd * 4 + b)))) ∧ h = HP (swS σ kd a b)) ∨ (¬ swP kd a b ∧ v = some (Vi 0) ∧ h = HP (cd0 σ 1))) ga_nox 26 [some (Vr 63), some (Vi kd), some (Vi a), some (Vi b), none, none, none] [Vr 63] (HP σ) := by
    intro hn
    refine ga_iconst dX11_swap_26 ⟨by decide, by decide⟩ ?_
    refine hg_putI 0 gfX11_84 dX11_swap_27 rfl rfl rfl ?_
    refine ga_aload_n dX11_swap_30 rfl ?_
    refine hg_getI 0 grX11_84 dX11_swap_31 rfl rfl rfl ?_
    refine ga_if_le (tgt := 39) dX11_swap_34 rfl (fun c_34 => ?_) (fun c_34 => ?_)
    · exact absurd (show (1 : Int) ≤ 0 from c_34) (by decide)
    · refine ga_iconst dX11_swap_37 ⟨by decide, by decide⟩ ?_
      refine ga_ret (v := some _) ?_ rfl (by decide) (by decide) ⟨dX11_swap_38, _, rfl, rfl⟩
      exact Or.inr ⟨hn, rfl, rfl⟩
  refine ga_aload_n dX11_swap_0 rfl ?_
  refine ga_iload_n dX11_swap_1 rfl ?_
  refine hc_S (T_X11_isKind kd _) fX11_isKind rfl kX11_isKind lkX11_92 dX11_swap_2 rfl rfl rfl rfl rfl rfl ?_
  refine ga_if_eq (tgt := 26) dX11_swap_5 rfl (fun c_5 => ?_) (fun c_5 => ?_)
  · rw [tv_eq0] at c_5
    exact E (fun w => c_5 w.1)
  rw [tv_ne0] at c_5
  refine ga_iload_n dX11_swap_8 rfl ?_
  refine hc_S (T_X11_isPin a _) fX11_isPin rfl kX11_isPin lkX11_101 dX11_swap_9 rfl rfl rfl rfl rfl rfl ?_
  refine ga_if_eq (tgt := 26) dX11_swap_12 rfl (fun c_12 => ?_) (fun c_12 => ?_)
  · rw [tv_eq0] at c_12
    exact E (fun w => c_12 w.2.1)
  rw [tv_ne0] at c_12
  refine ga_iload_n dX11_swap_15 rfl ?_
  refine hc_S (T_X11_isPin b _) fX11_isPin rfl kX11_isPin lkX11_101 dX11_swap_16 rfl rfl rfl rfl rfl rfl ?_
  refine ga_if_eq (tgt := 26) dX11_swap_19 rfl (fun c_19 => ?_) (fun c_19 => ?_)
  · rw [tv_eq0] at c_19
    exact E (fun w => c_19 w.2.2)
  rw [tv_ne0] at c_19
  have hy : swP kd a b := ⟨c_5, c_12, c_19⟩
  refine ga_iconst dX11_swap_22 ⟨by decide, by decide⟩ ?_
  refine ga_goto (tgt := 27) dX11_swap_23 rfl ?_
  refine hg_putI 0 gfX11_84 dX11_swap_27 rfl rfl rfl ?_
  refine ga_aload_n dX11_swap_30 rfl ?_
  refine hg_getI 0 grX11_84 dX11_swap_31 rfl rfl rfl ?_
  refine ga_if_le (tgt := 39) dX11_swap_34 rfl (fun c_34 => ?_) (fun c_34 => ?_)
  rotate_left
  · exact absurd c_34 (by rw [show (stI σ 63 (ga_up (σ.1 63) 0 0)).1 63 0 = 0 from rfl]; decide)
  have k71 : (cd0 σ 0).1 71 = σ.1 71 := rfl
  refine ga_eqh (h2 := HP (cd0 σ 0)) rfl ?_
  refine ga_aload_n dX11_swap_39 rfl ?_
  refine hg_getR grX11_33 dX11_swap_40 rfl rfl ?_
  refine ga_iconst dX11_swap_43 ⟨by decide, by decide⟩ ?_
  refine ga_iload_n dX11_swap_44 rfl ?_
  refine ga_imul (z := (kd * 4)) dX11_swap_45 (by omega) (⟨by omega, by omega⟩) ?_
  refine ga_iload_n dX11_swap_46 rfl ?_
  refine ga_iadd (z := (kd * 4 + a)) dX11_swap_47 (by omega) (⟨by omega, by omega⟩) ?_
  refine hg_iald dX11_swap_48 rfl (by omega) (by omega) ?_
  refine ga_istore (lv2 := [_, _, _, _, _, _, _]) dX11_swap_49 (by decide) rfl rfl ?_
  rw [k71]
  refine ga_aload_n dX11_swap_51 rfl ?_
  refine hg_getR grX11_33 dX11_swap_52 rfl rfl ?_
  refine ga_iconst dX11_swap_55 ⟨by decide, by decide⟩ ?_
  refine ga_iload_n dX11_swap_56 rfl ?_
  refine ga_imul (z := (kd * 4)) dX11_swap_57 (by omega) (⟨by omega, by omega⟩) ?_
  refine ga_iload_n dX11_swap_58 rfl ?_
  refine ga_iadd (z := (kd * 4 + b)) dX11_swap_59 (by omega) (⟨by omega, by omega⟩) ?_
  refine hg_iald dX11_swap_60 rfl (by omega) (by omega) ?_
  refine ga_istore (lv2 := [_, _, _, _, _, _, _]) dX11_swap_61 (by decide) rfl rfl ?_
  rw [k71]
  generalize hx : σ.1 71 (kd * 4 + a) = x
  generalize hy2 : σ.1 71 (kd * 4 + b) = y
  refine ga_iconst dX11_swap_63 ⟨by decide, by decide⟩ ?_
  refine ga_iload_n dX11_swap_64 rfl ?_
  refine ga_imul (z := (kd * 4 + ((0 : Nat) : Int))) dX11_swap_65 (by omega) (⟨by omega, by omega⟩) ?_
  refine ga_istore (lv2 := [_, _, _, _, _, _, _]) dX11_swap_66 (by decide) rfl rfl ?_
  refine ga_eqh (h2 := HP (stI (cd0 σ 0) 71 (unF (σ.1 71) kd x y ((0 : Nat) : Int)))) (by rw [unF_0]; exact congrArg HP (stI_self (cd0 σ 0) 71).symm) ?_
  refine (ga_loop 4 (fun i => ga_W 1 0 0 0 0 mX11_swap (fun v h => (swP kd a b ∧ v = some (Vi (tv (x ≠ y))) ∧ h = HP (swS σ kd a b)) ∨ (¬ swP kd a b ∧ v = some (Vi 0) ∧ h = HP (cd0 σ 1))) ga_nox 68 [some (Vr 63), some (Vi kd), some (Vi a), some (Vi b), some (Vi x), some (Vi y), some (Vi (kd * 4 + (i : Int)))] [] (HP (stI (cd0 σ 0) 71 (unF (σ.1 71) kd x y i)))) ?_ ?_ 0 (Nat.zero_le _) : _)
  · have FIN : HP (stI (cd0 σ 0) 71 (unF (σ.1 71) kd x y (4 : Nat))) = HP (swS σ kd a b) := by
      unfold swS
      rw [hx, hy2]
      rfl
    refine ga_iload dX11_swap_68 rfl ?_
    refine ga_iconst dX11_swap_70 ⟨by decide, by decide⟩ ?_
    refine ga_iload_n dX11_swap_71 rfl ?_
    refine ga_imul dX11_swap_72 rfl (⟨by omega, by omega⟩) ?_
    refine ga_iconst dX11_swap_73 ⟨by decide, by decide⟩ ?_
    refine ga_iadd dX11_swap_74 rfl (⟨by omega, by omega⟩) ?_
    refine ga_icmp_ge (tgt := 139) dX11_swap_75 rfl (fun c_75 => ?_) (fun c_75 => ?_)
    · refine ga_iload dX11_swap_139 rfl ?_
      refine ga_iload dX11_swap_141 rfl ?_
      refine ga_icmp_eq (tgt := 150) dX11_swap_143 rfl (fun c_143 => ?_) (fun c_143 => ?_)
      · refine ga_iconst dX11_swap_150 ⟨by decide, by decide⟩ ?_
        refine ga_ret (v := some _) ?_ rfl (by decide) (by decide) ⟨dX11_swap_151, _, rfl, rfl⟩
        exact Or.inl ⟨hy, tvf (fun w => w c_143), FIN⟩
      · refine ga_iconst dX11_swap_146 ⟨by decide, by decide⟩ ?_
        refine ga_goto (tgt := 151) dX11_swap_147 rfl ?_
        refine ga_ret (v := some _) ?_ rfl (by decide) (by decide) ⟨dX11_swap_151, _, rfl, rfl⟩
        exact Or.inl ⟨hy, tvt c_143, FIN⟩
    · omega
  · intro i hi k
    have e9 : (stI (cd0 σ 0) 71 (unF (σ.1 71) kd x y i)).1 71 (kd * 4 + (i : Int)) = σ.1 71 (kd * 4 + i) := unF_at
    have T132 : ∀ w : Int, ga_up (unF (σ.1 71) kd x y i) (kd * 4 + i) w = unF (σ.1 71) kd x y ((i + 1 : Nat) : Int) → ga_W 1 0 0 0 0 mX11_swap (fun v h => (swP kd a b ∧ v = some (Vi (tv (x ≠ y))) ∧ h = HP (swS σ kd a b)) ∨ (¬ swP kd a b ∧ v = some (Vi 0) ∧ h = HP (cd0 σ 1))) ga_nox 132 [some (Vr 63), some (Vi kd), some (Vi a), some (Vi b), some (Vi x), some (Vi y), some (Vi (kd * 4 + (i : Int)))] [Vi w, Vi (kd * 4 + (i : Int)), Vr 71] (HP (stI (cd0 σ 0) 71 (unF (σ.1 71) kd x y i))) := by
      intro w hw
      refine hg_iast dX11_swap_132 rfl (by omega) (by omega) ?_
      refine ga_iinc (z := (kd * 4 + ((i + 1 : Nat) : Int))) (lv2 := [_, _, _, _, _, _, _]) dX11_swap_133 (by decide) rfl rfl (by omega) (⟨by omega, by omega⟩) rfl ?_
      refine ga_goto (tgt := 68) dX11_swap_136 rfl ?_
      rw [stI_st, stI_at, hw]
      exact k
    have R108 : (σ.1 71 (kd * 4 + i) = x ∨ σ.1 71 (kd * 4 + i) = y) → ga_W 1 0 0 0 0 mX11_swap (fun v h => (swP kd a b ∧ v = some (Vi (tv (x ≠ y))) ∧ h = HP (swS σ kd a b)) ∨ (¬ swP kd a b ∧ v = some (Vi 0) ∧ h = HP (cd0 σ 1))) ga_nox 108 [some (Vr 63), some (Vi kd), some (Vi a), some (Vi b), some (Vi x), some (Vi y), some (Vi (kd * 4 + (i : Int)))] [Vi (kd * 4 + (i : Int)), Vr 71] (HP (stI (cd0 σ 0) 71 (unF (σ.1 71) kd x y i))) := by
      intro ho
      have e := unF_yes ho
      refine ga_iload dX11_swap_108 rfl ?_
      refine ga_iload dX11_swap_110 rfl ?_
      refine ga_icmp_ge (tgt := 120) dX11_swap_112 rfl (fun c_112 => ?_) (fun c_112 => ?_)
      · have m : imin x y = y := by unfold imin; split <;> omega
        refine ga_iload dX11_swap_120 rfl ?_
        refine ga_goto (tgt := 132) dX11_swap_122 rfl ?_
        exact T132 y (by rw [← m]; rw [m] at e ⊢; exact e)
      · have m : imin x y = x := by unfold imin; split <;> omega
        refine ga_iload dX11_swap_115 rfl ?_
        refine ga_goto (tgt := 132) dX11_swap_117 rfl ?_
        exact T132 x (by rw [m] at e; exact e)
    refine ga_iload dX11_swap_68 rfl ?_
    refine ga_iconst dX11_swap_70 ⟨by decide, by decide⟩ ?_
    refine ga_iload_n dX11_swap_71 rfl ?_
    refine ga_imul dX11_swap_72 rfl (⟨by omega, by omega⟩) ?_
    refine ga_iconst dX11_swap_73 ⟨by decide, by decide⟩ ?_
    refine ga_iadd dX11_swap_74 rfl (⟨by omega, by omega⟩) ?_
    refine ga_icmp_ge (tgt := 139) dX11_swap_75 rfl (fun c_75 => ?_) (fun c_75 => ?_)
    · omega
    · refine ga_aload_n dX11_swap_78 rfl ?_
      refine hg_getR grX11_33 dX11_swap_79 rfl rfl ?_
      refine ga_iload dX11_swap_82 rfl ?_
      refine ga_aload_n dX11_swap_84 rfl ?_
      refine hg_getR grX11_33 dX11_swap_85 rfl rfl ?_
      refine ga_iload dX11_swap_88 rfl ?_
      refine hg_iald dX11_swap_90 rfl (by omega) (by omega) ?_
      refine ga_iload dX11_swap_91 rfl ?_
      refine ga_icmp_eq (tgt := 108) dX11_swap_93 rfl (fun c_93 => ?_) (fun c_93 => ?_)
      · rw [e9] at c_93
        exact R108 (Or.inl c_93)
      · rw [e9] at c_93
        refine ga_aload_n dX11_swap_96 rfl ?_
        refine hg_getR grX11_33 dX11_swap_97 rfl rfl ?_
        refine ga_iload dX11_swap_100 rfl ?_
        refine hg_iald dX11_swap_102 rfl (by omega) (by omega) ?_
        refine ga_iload dX11_swap_103 rfl ?_
        refine ga_icmp_ne (tgt := 125) dX11_swap_105 rfl (fun c_105 => ?_) (fun c_105 => ?_)
        · rw [e9] at c_105
          have e := unF_no (f := σ.1 71) (kd := kd) (a := x) (b := y) (i := i) (fun w => w.elim c_93 c_105)
          refine ga_aload_n dX11_swap_125 rfl ?_
          refine hg_getR grX11_33 dX11_swap_126 rfl rfl ?_
          refine ga_iload dX11_swap_129 rfl ?_
          refine hg_iald dX11_swap_131 rfl (by omega) (by omega) ?_
          refine T132 _ ?_
          rw [e9, ← e]
          exact ga_up_self unF_at
        · rw [e9] at c_105
          exact R108 (Or.inr c_105)
noncomputable def shCo (kd : Int) (v : UInt64) : Int := if ¬ (0 ≤ kd ∧ kd < 8) then 1 else if ¬ dcl v FP.dconst0 < 0 ∧ dcg v FP.dconst1 ≤ 0 then 0 else 2
theorem T_X11_share (kd : Int) (v : UInt64) (σ : ga_S) : ga_Mt 1 0 0 mX11_share [Vr 63, Vi kd, Vd v] (HP σ) (fun v2 h => (shCo kd v = 0 ∧ dcl (σ.2 72 kd) v = 0 ∧ v2 = some (Vi 0) ∧ h = HP (cd0 σ 0)) ∨ (shCo kd v = 0 ∧ ¬ dcl (σ.2 72 kd) v = 0 ∧ v2 = some (Vi 1) ∧ h = HP (stD (cd0 σ 0) 72 (ga_up (σ.2 72) kd v))) ∨ (shCo kd v ≠ 0 ∧ v2 = some (Vi 0) ∧ h = HP (cd0 σ (shCo kd v)))) ga_nox := by
  refine ga_meth [some (Vr 63), some (Vi kd), some (Vd v), none] rfl rfl (by decide +kernel) (Nat.le_of_ble_eq_true rfl) rfl ?_
  have E : ∀ c : Int, 0 < c → c = shCo kd v → ga_W 1 0 0 0 0 mX11_share (fun v2 h => (shCo kd v = 0 ∧ dcl (σ.2 72 kd) v = 0 ∧ v2 = some (Vi 0) ∧ h = HP (cd0 σ 0)) ∨ (shCo kd v = 0 ∧ ¬ dcl (σ.2 72 kd) v = 0 ∧ v2 = some (Vi 1) ∧ h = HP (stD (cd0 σ 0) 72 (ga_up (σ.2 72) kd v))) ∨ (shCo kd v ≠ 0 ∧ v2 = some (Vi 0) ∧ h = HP (cd0 σ (shCo kd v)))) ga_nox 29 [some (Vr 63), some (Vi kd), some (Vd v), none] [Vi c, Vr 63] (HP σ) := by
    intro c c0 hc
    refine hg_putI 0 gfX11_84 dX11_share_29 rfl rfl rfl ?_
    refine ga_aload_n dX11_share_32 rfl ?_
    refine hg_getI 0 grX11_84 dX11_share_33 rfl rfl rfl ?_
    refine ga_if_gt (tgt := 50) dX11_share_36 rfl (fun c_36 => ?_) (fun c_36 => ?_)
    · refine ga_iconst dX11_share_50 ⟨by decide, by decide⟩ ?_
      refine ga_ret (v := some _) ?_ rfl (by decide) (by decide) ⟨dX11_share_51, _, rfl, rfl⟩
      exact Or.inr (Or.inr ⟨by omega, rfl, by rw [← hc]⟩)
    · exact absurd (show c ≤ 0 from c_36) (by omega)
  refine ga_aload_n dX11_share_0 rfl ?_
  refine ga_iload_n dX11_share_1 rfl ?_
  refine hc_S (T_X11_isKind kd _) fX11_isKind rfl kX11_isKind lkX11_92 dX11_share_2 rfl rfl rfl rfl rfl rfl ?_
  refine ga_if_ne (tgt := 12) dX11_share_5 rfl (fun c_5 => ?_) (fun c_5 => ?_)
  rotate_left
  · rw [tv_eq0] at c_5
    refine ga_iconst dX11_share_8 ⟨by decide, by decide⟩ ?_
    refine ga_goto (tgt := 29) dX11_share_9 rfl ?_
    exact E 1 (by decide) (by unfold shCo; rw [if_pos c_5])
  rw [tv_ne0] at c_5
  refine ga_dload_n dX11_share_12 rfl ?_
  refine ga_dconst0 dX11_share_13 ?_
  refine ga_dcmp dX11_share_14 (ga_ofI _).symm (ga_inI32 _) ?_
  refine ga_if_lt (tgt := 28) dX11_share_15 rfl (fun c_15 => ?_) (fun c_15 => ?_)
  · refine ga_iconst dX11_share_28 ⟨by decide, by decide⟩ ?_
    exact E 2 (by decide) (by unfold shCo; rw [if_neg (fun w => w c_5), if_neg (fun w => w.1 c_15)])
  · refine ga_dload_n dX11_share_18 rfl ?_
    refine ga_dconst1 dX11_share_19 ?_
    refine ga_dcmp dX11_share_20 (ga_ofI _).symm (ga_inI32 _) ?_
    refine ga_if_gt (tgt := 28) dX11_share_21 rfl (fun c_21 => ?_) (fun c_21 => ?_)
    · refine ga_iconst dX11_share_28 ⟨by decide, by decide⟩ ?_
      exact E 2 (by decide) (by unfold shCo; rw [if_neg (fun w => w c_5), if_neg (fun w => c_21 w.2)])
    · have e0 : shCo kd v = 0 := by unfold shCo; rw [if_neg (fun w => w c_5), if_pos ⟨c_15, c_21⟩]
      refine ga_iconst dX11_share_24 ⟨by decide, by decide⟩ ?_
      refine ga_goto (tgt := 29) dX11_share_25 rfl ?_
      refine hg_putI 0 gfX11_84 dX11_share_29 rfl rfl rfl ?_
      refine ga_aload_n dX11_share_32 rfl ?_
      refine hg_getI 0 grX11_84 dX11_share_33 rfl rfl rfl ?_
      refine ga_if_gt (tgt := 50) dX11_share_36 rfl (fun c_36 => ?_) (fun c_36 => ?_)
      · exact absurd c_36 (by rw [show (stI σ 63 (ga_up (σ.1 63) 0 0)).1 63 0 = 0 from rfl]; decide)
      · refine ga_eqh (h2 := HP (cd0 σ 0)) rfl ?_
        have k72 : (cd0 σ 0).2 72 = σ.2 72 := rfl
        refine ga_aload_n dX11_share_39 rfl ?_
        refine hg_getR grX11_36 dX11_share_40 rfl rfl ?_
        refine ga_iload_n dX11_share_43 rfl ?_
        refine hg_dald dX11_share_44 rfl (by omega) (by omega) ?_
        rw [k72]
        refine ga_dload_n dX11_share_45 rfl ?_
        refine ga_dcmp dX11_share_46 (ga_ofI _).symm (ga_inI32 _) ?_
        refine ga_if_ne (tgt := 52) dX11_share_47 rfl (fun c_47 => ?_) (fun c_47 => ?_)
        · refine ga_aload_n dX11_share_52 rfl ?_
          refine hg_getR grX11_36 dX11_share_53 rfl rfl ?_
          refine ga_iload_n dX11_share_56 rfl ?_
          refine ga_dload_n dX11_share_57 rfl ?_
          refine hg_dast dX11_share_58 rfl (by omega) (by omega) ?_
          refine ga_iconst dX11_share_59 ⟨by decide, by decide⟩ ?_
          refine ga_ret (v := some _) ?_ rfl (by decide) (by decide) ⟨dX11_share_60, _, rfl, rfl⟩
          exact Or.inr (Or.inl ⟨e0, c_47, rfl, rfl⟩)
        · refine ga_iconst dX11_share_50 ⟨by decide, by decide⟩ ?_
          refine ga_ret (v := some _) ?_ rfl (by decide) (by decide) ⟨dX11_share_51, _, rfl, rfl⟩
          exact Or.inl ⟨e0, c_47, rfl, rfl⟩
/-- another net of the side has the name -/
def otP (σ : ga_S) (s n y : Int) (c : Nat) : Prop := ∃ m : Nat, m < c ∧ ((m : Int) ≠ n ∧ σ.1 64 (40 * s + m) = y)
noncomputable def poCo (σ : ga_S) (s n y : Int) : Int := if ¬ ((s = 0 ∨ s = 1) ∧ 0 ≤ n ∧ n < σ.1 65 s) then 1 else tif (y < 0 ∨ otP σ s n y (σ.1 65 s).toNat) 2 0
def poS (σ : ga_S) (s n y : Int) : ga_S := stI (cd0 σ 0) 64 (ga_up (σ.1 64) (40 * s + n) y)
theorem T_X11_port (s n y : Int) (σ : ga_S) (h : s = 0 ∨ s = 1 → 0 ≤ σ.1 65 s ∧ σ.1 65 s ≤ 40) : ga_Mt 2 0 0 mX11_port [Vr 63, Vi s, Vi n, Vi y] (HP σ) (fun v h => (poCo σ s n y = 0 ∧ v = some (Vi (tv (σ.1 64 (40 * s + n) = -1))) ∧ h = HP (poS σ s n y)) ∨ (poCo σ s n y ≠ 0 ∧ v = some (Vi 0) ∧ h = HP (cd0 σ (poCo σ s n y)))) ga_nox := by
  refine ga_meth [some (Vr 63), some (Vi s), some (Vi n), some (Vi y), none] rfl rfl (by decide +kernel) (Nat.le_of_ble_eq_true rfl) rfl ?_
  have E87 : ∀ (c : Int) (z : Option ga_V), 0 < c → c = poCo σ s n y → ga_W 2 0 0 0 0 mX11_port (fun v h => (poCo σ s n y = 0 ∧ v = some (Vi (tv (σ.1 64 (40 * s + n) = -1))) ∧ h = HP (poS σ s n y)) ∨ (poCo σ s n y ≠ 0 ∧ v = some (Vi 0) ∧ h = HP (cd0 σ (poCo σ s n y)))) ga_nox 87 [some (Vr 63), some (Vi s), some (Vi n), some (Vi y), z] [] (HP (cd0 σ c)) := by
    intro c z c0 hc
    refine ga_aload_n dX11_port_87 rfl ?_
    refine hg_getI 0 grX11_84 dX11_port_88 rfl rfl rfl ?_
    refine ga_if_le (tgt := 96) dX11_port_91 rfl (fun c_91 => ?_) (fun c_91 => ?_)
    · exact absurd (show c ≤ 0 from c_91) (by omega)
    · refine ga_iconst dX11_port_94 ⟨by decide, by decide⟩ ?_
      refine ga_ret (v := some _) ?_ rfl (by decide) (by decide) ⟨dX11_port_95, _, rfl, rfl⟩
      exact Or.inr ⟨by omega, rfl, by rw [← hc]⟩
  have E23 : ∀ c : Int, 0 < c → c = poCo σ s n y → ga_W 2 0 0 0 0 mX11_port (fun v h => (poCo σ s n y = 0 ∧ v = some (Vi (tv (σ.1 64 (40 * s + n) = -1))) ∧ h = HP (poS σ s n y)) ∨ (poCo σ s n y ≠ 0 ∧ v = some (Vi 0) ∧ h = HP (cd0 σ (poCo σ s n y)))) ga_nox 23 [some (Vr 63), some (Vi s), some (Vi n), some (Vi y), none] [Vi c, Vr 63] (HP σ) := by
    intro c c0 hc
    refine hg_putI 0 gfX11_84 dX11_port_23 rfl rfl rfl ?_
    refine ga_iconst dX11_port_26 ⟨by decide, by decide⟩ ?_
    refine ga_istore (lv2 := [_, _, _, _, _]) dX11_port_27 (by decide) rfl rfl ?_
    refine ga_aload_n dX11_port_29 rfl ?_
    refine hg_getI 0 grX11_84 dX11_port_30 rfl rfl rfl ?_
    refine ga_if_ne (tgt := 87) dX11_port_33 rfl (fun c_33 => ?_) (fun c_33 => ?_)
    · exact E87 c _ c0 hc
    · exact absurd (show c = 0 from c_33) (by omega)
  refine ga_aload_n dX11_port_0 rfl ?_
  refine ga_aload_n dX11_port_1 rfl ?_
  refine ga_iload_n dX11_port_2 rfl ?_
  refine ga_iload_n dX11_port_3 rfl ?_
  refine hc_V (T_X11_isNet s n σ) fX11_isNet rfl kX11_isNet lkX11_104 dX11_port_4 rfl rfl rfl rfl rfl rfl rfl rfl ?_
  refine ga_if_ne (tgt := 14) dX11_port_7 rfl (fun c_7 => ?_) (fun c_7 => ?_)
  rotate_left
  · rw [tv_eq0] at c_7
    refine ga_iconst dX11_port_10 ⟨by decide, by decide⟩ ?_
    refine ga_goto (tgt := 23) dX11_port_11 rfl ?_
    exact E23 1 (by decide) (by unfold poCo; rw [if_pos c_7])
  rw [tv_ne0] at c_7
  refine ga_iload_n dX11_port_14 rfl ?_
  refine ga_if_ge (tgt := 22) dX11_port_15 rfl (fun c_15 => ?_) (fun c_15 => ?_)
  rotate_left
  · refine ga_iconst dX11_port_18 ⟨by decide, by decide⟩ ?_
    refine ga_goto (tgt := 23) dX11_port_19 rfl ?_
    exact E23 2 (by decide) (by unfold poCo; rw [if_neg (fun w => w c_7), tif1 (Or.inl (by omega))])
  have s1 := c_7.1
  have n1 := c_7.2
  have hb := h s1
  obtain ⟨N, hN⟩ : ∃ N : Nat, σ.1 65 s = N := ⟨(σ.1 65 s).toNat, by omega⟩
  have k65 : (cd0 σ 0).1 65 = σ.1 65 := rfl
  have k64 : (cd0 σ 0).1 64 = σ.1 64 := rfl
  have k0 : (cd0 σ 0).1 63 0 = 0 := rfl
  refine ga_iconst dX11_port_22 ⟨by decide, by decide⟩ ?_
  refine hg_putI 0 gfX11_84 dX11_port_23 rfl rfl rfl ?_
  refine ga_iconst dX11_port_26 ⟨by decide, by decide⟩ ?_
  refine ga_istore (lv2 := [_, _, _, _, _]) dX11_port_27 (by decide) rfl rfl ?_
  refine ga_eqh (h2 := HP (cd0 σ 0)) rfl ?_
  refine (ga_loop N (fun i => ¬ otP σ s n y i → ga_W 2 0 0 0 0 mX11_port (fun v h => (poCo σ s n y = 0 ∧ v = some (Vi (tv (σ.1 64 (40 * s + n) = -1))) ∧ h = HP (poS σ s n y)) ∨ (poCo σ s n y ≠ 0 ∧ v = some (Vi 0) ∧ h = HP (cd0 σ (poCo σ s n y)))) ga_nox 29 [some (Vr 63), some (Vi s), some (Vi n), some (Vi y), some (Vi (i : Int))] [] (HP (cd0 σ 0))) ?_ ?_ 0 (Nat.zero_le _) (fun ⟨m, m1, _⟩ => by omega) : _)
  · intro hno
    have e0 : poCo σ s n y = 0 := by unfold poCo; rw [if_neg (fun w => w c_7), tif0 (fun w => w.elim (fun z => by omega) (fun z => hno (by rw [hN, Int.toNat_natCast] at z; exact z)))]
    have G : ga_W 2 0 0 0 0 mX11_port (fun v h => (poCo σ s n y = 0 ∧ v = some (Vi (tv (σ.1 64 (40 * s + n) = -1))) ∧ h = HP (poS σ s n y)) ∨ (poCo σ s n y ≠ 0 ∧ v = some (Vi 0) ∧ h = HP (cd0 σ (poCo σ s n y)))) ga_nox 87 [some (Vr 63), some (Vi s), some (Vi n), some (Vi y), some (Vi (N : Int))] [] (HP (cd0 σ 0)) := by
      refine ga_aload_n dX11_port_87 rfl ?_
      refine hg_getI 0 grX11_84 dX11_port_88 rfl rfl rfl ?_
      refine ga_if_le (tgt := 96) dX11_port_91 rfl (fun c_91 => ?_) (fun c_91 => ?_)
      rotate_left
      · exact absurd c_91 (by rw [k0]; decide)
      refine ga_aload_n dX11_port_96 rfl ?_
      refine hg_getR grX11_7 dX11_port_97 rfl rfl ?_
      refine ga_bipush dX11_port_100 ⟨by decide, by decide⟩ (by decide) ?_
      refine ga_iload_n dX11_port_102 rfl ?_
      refine ga_imul (z := (40 * s)) dX11_port_103 (by omega) (⟨by omega, by omega⟩) ?_
      refine ga_iload_n dX11_port_104 rfl ?_
      refine ga_iadd (z := (40 * s + n)) dX11_port_105 (by omega) (⟨by omega, by omega⟩) ?_
      refine hg_iald dX11_port_106 rfl (by omega) (by omega) ?_
      rw [k64]
      refine ga_iconst dX11_port_107 ⟨by decide, by decide⟩ ?_
      refine ga_icmp_ne (tgt := 115) dX11_port_108 rfl (fun c_108 => ?_) (fun c_108 => ?_)
      · refine ga_iconst dX11_port_115 ⟨by decide, by decide⟩ ?_
        refine ga_istore (lv2 := [_, _, _, _, _]) dX11_port_116 (by decide) rfl rfl ?_
        refine ga_aload_n dX11_port_118 rfl ?_
        refine hg_getR grX11_7 dX11_port_119 rfl rfl ?_
        refine ga_bipush dX11_port_122 ⟨by decide, by decide⟩ (by decide) ?_
        refine ga_iload_n dX11_port_124 rfl ?_
        refine ga_imul (z := (40 * s)) dX11_port_125 (by omega) (⟨by omega, by omega⟩) ?_
        refine ga_iload_n dX11_port_126 rfl ?_
        refine ga_iadd (z := (40 * s + n)) dX11_port_127 (by omega) (⟨by omega, by omega⟩) ?_
        refine ga_iload_n dX11_port_128 rfl ?_
        refine hg_iast dX11_port_129 rfl (by omega) (by omega) ?_
        refine ga_iload dX11_port_130 rfl ?_
        refine ga_ret (v := some _) ?_ rfl (by decide) (by decide) ⟨dX11_port_132, _, rfl, rfl⟩
        exact Or.inl ⟨e0, tvf c_108, rfl⟩
      · refine ga_iconst dX11_port_111 ⟨by decide, by decide⟩ ?_
        refine ga_goto (tgt := 116) dX11_port_112 rfl ?_
        refine ga_istore (lv2 := [_, _, _, _, _]) dX11_port_116 (by decide) rfl rfl ?_
        refine ga_aload_n dX11_port_118 rfl ?_
        refine hg_getR grX11_7 dX11_port_119 rfl rfl ?_
        refine ga_bipush dX11_port_122 ⟨by decide, by decide⟩ (by decide) ?_
        refine ga_iload_n dX11_port_124 rfl ?_
        refine ga_imul (z := (40 * s)) dX11_port_125 (by omega) (⟨by omega, by omega⟩) ?_
        refine ga_iload_n dX11_port_126 rfl ?_
        refine ga_iadd (z := (40 * s + n)) dX11_port_127 (by omega) (⟨by omega, by omega⟩) ?_
        refine ga_iload_n dX11_port_128 rfl ?_
        refine hg_iast dX11_port_129 rfl (by omega) (by omega) ?_
        refine ga_iload dX11_port_130 rfl ?_
        refine ga_ret (v := some _) ?_ rfl (by decide) (by decide) ⟨dX11_port_132, _, rfl, rfl⟩
        exact Or.inl ⟨e0, tvt c_108, rfl⟩
    refine ga_aload_n dX11_port_29 rfl ?_
    refine hg_getI 0 grX11_84 dX11_port_30 rfl rfl rfl ?_
    refine ga_if_ne (tgt := 87) dX11_port_33 rfl (fun c_33 => ?_) (fun c_33 => ?_)
    · exact G
    · refine ga_iload dX11_port_36 rfl ?_
      refine ga_aload_n dX11_port_38 rfl ?_
      refine hg_getR grX11_13 dX11_port_39 rfl rfl ?_
      refine ga_iload_n dX11_port_42 rfl ?_
      refine hg_iald dX11_port_43 rfl (by omega) (by omega) ?_
      refine ga_icmp_ge (tgt := 87) dX11_port_44 rfl (fun c_44 => ?_) (fun c_44 => ?_)
      · exact G
      · have c9 : (N : Int) < σ.1 65 s := c_44
        omega
  · intro i hi k hno
    have GO : ¬ ((i : Int) ≠ n ∧ σ.1 64 (40 * s + i) = y) → ga_W 2 0 0 0 0 mX11_port (fun v h => (poCo σ s n y = 0 ∧ v = some (Vi (tv (σ.1 64 (40 * s + n) = -1))) ∧ h = HP (poS σ s n y)) ∨ (poCo σ s n y ≠ 0 ∧ v = some (Vi 0) ∧ h = HP (cd0 σ (poCo σ s n y)))) ga_nox 74 [some (Vr 63), some (Vi s), some (Vi n), some (Vi y), some (Vi (i : Int))] [Vr 63] (HP (cd0 σ 0)) := by
      intro hn
      refine ga_aload_n dX11_port_74 rfl ?_
      refine hg_getI 0 grX11_84 dX11_port_75 rfl rfl rfl ?_
      rw [k0]
      refine hg_putI 0 gfX11_84 dX11_port_78 rfl rfl rfl ?_
      refine ga_iinc (z := ((i + 1 : Nat) : Int)) (lv2 := [_, _, _, _, _]) dX11_port_81 (by decide) rfl rfl (by omega) (⟨by omega, by omega⟩) rfl ?_
      refine ga_goto (tgt := 29) dX11_port_84 rfl ?_
      refine ga_eqh (h2 := HP (cd0 σ 0)) (by have := cd0_st (σ := σ) (a := 0) (b := 0); exact congrArg HP this) ?_
      exact k (fun w => (ex_s.mp w).elim hno hn)
    refine ga_aload_n dX11_port_29 rfl ?_
    refine hg_getI 0 grX11_84 dX11_port_30 rfl rfl rfl ?_
    refine ga_if_ne (tgt := 87) dX11_port_33 rfl (fun c_33 => ?_) (fun c_33 => ?_)
    · exact absurd k0 c_33
    · refine ga_iload dX11_port_36 rfl ?_
      refine ga_aload_n dX11_port_38 rfl ?_
      refine hg_getR grX11_13 dX11_port_39 rfl rfl ?_
      refine ga_iload_n dX11_port_42 rfl ?_
      refine hg_iald dX11_port_43 rfl (by omega) (by omega) ?_
      refine ga_icmp_ge (tgt := 87) dX11_port_44 rfl (fun c_44 => ?_) (fun c_44 => ?_)
      · have c9 : ¬ (i : Int) < σ.1 65 s := c_44
        omega
      · refine ga_aload_n dX11_port_47 rfl ?_
        refine ga_iload dX11_port_48 rfl ?_
        refine ga_iload_n dX11_port_50 rfl ?_
        refine ga_icmp_eq (tgt := 74) dX11_port_51 rfl (fun c_51 => ?_) (fun c_51 => ?_)
        · exact GO (fun w => w.1 c_51)
        · refine ga_aload_n dX11_port_54 rfl ?_
          refine hg_getR grX11_7 dX11_port_55 rfl rfl ?_
          refine ga_bipush dX11_port_58 ⟨by decide, by decide⟩ (by decide) ?_
          refine ga_iload_n dX11_port_60 rfl ?_
          refine ga_imul (z := (40 * s)) dX11_port_61 (by omega) (⟨by omega, by omega⟩) ?_
          refine ga_iload dX11_port_62 rfl ?_
          refine ga_iadd (z := (40 * s + (i : Int))) dX11_port_64 (by omega) (⟨by omega, by omega⟩) ?_
          refine hg_iald dX11_port_65 rfl (by omega) (by omega) ?_
          refine ga_iload_n dX11_port_66 rfl ?_
          refine ga_icmp_ne (tgt := 74) dX11_port_67 rfl (fun c_67 => ?_) (fun c_67 => ?_)
          · have c9 : ¬ σ.1 64 (40 * s + (i : Int)) = y := c_67
            exact GO (fun w => c9 w.2)
          · have c9 : σ.1 64 (40 * s + (i : Int)) = y := c_67
            have e2 : poCo σ s n y = 2 := by
              unfold poCo
              rw [if_neg (fun w => w c_7), tif1 (Or.inr ⟨i, by omega, c_51, c9⟩)]
            refine ga_iconst dX11_port_70 ⟨by decide, by decide⟩ ?_
            refine ga_goto (tgt := 78) dX11_port_71 rfl ?_
            refine hg_putI 0 gfX11_84 dX11_port_78 rfl rfl rfl ?_
            refine ga_iinc (lv2 := [_, _, _, _, _]) dX11_port_81 (by decide) rfl rfl rfl (⟨by omega, by omega⟩) rfl ?_
            refine ga_goto (tgt := 29) dX11_port_84 rfl ?_
            refine ga_eqh (h2 := HP (cd0 σ 2)) (congrArg HP (cd0_st (σ := σ) (a := 0) (b := 2))) ?_
            refine ga_aload_n dX11_port_29 rfl ?_
            refine hg_getI 0 grX11_84 dX11_port_30 rfl rfl rfl ?_
            refine ga_if_ne (tgt := 87) dX11_port_33 rfl (fun c_33 => ?_) (fun c_33 => ?_)
            · exact E87 2 _ (by decide) e2.symm
            · exact absurd (show (2 : Int) = 0 from c_33) (by decide)
def maP (σ : ga_S) (s d : Int) : Prop := (s = 0 ∨ s = 1) ∧ 0 ≤ d ∧ d < σ.1 70 s
theorem T_X11_match (s d : Int) (σ : ga_S) (h : s = 0 ∨ s = 1 → σ.1 70 s ≤ 30) : ga_Mt 2 0 0 mX11_match [Vr 63, Vi s, Vi d] (HP σ) (fun v h => (maP σ s d ∧ v = some (Vi (if σ.1 63 18 = 0 ∨ ¬ σ.1 68 (30 * s + d) = 0 then -1 else σ.1 78 (30 * s + d))) ∧ h = HP (cd0 σ 0)) ∨ (¬ maP σ s d ∧ v = some (Vi 0) ∧ h = HP (cd0 σ 1))) ga_nox := by
  refine ga_meth [some (Vr 63), some (Vi s), some (Vi d)] rfl rfl (by decide +kernel) (Nat.le_of_ble_eq_true rfl) rfl ?_
  refine ga_aload_n dX11_match_0 rfl ?_
  refine ga_aload_n dX11_match_1 rfl ?_
  refine ga_iload_n dX11_match_2 rfl ?_
  refine ga_iload_n dX11_match_3 rfl ?_
  refine hc_V (T_X11_isDevice s d σ) fX11_isDevice rfl kX11_isDevice lkX11_97 dX11_match_4 rfl rfl rfl rfl rfl rfl rfl rfl ?_
  refine ga_if_eq (tgt := 14) dX11_match_7 rfl (fun c_7 => ?_) (fun c_7 => ?_)
  · rw [tv_eq0] at c_7
    have k0 : (cd0 σ 1).1 63 0 = 1 := rfl
    refine ga_iconst dX11_match_14 ⟨by decide, by decide⟩ ?_
    refine hg_putI 0 gfX11_84 dX11_match_15 rfl rfl rfl ?_
    refine ga_eqh (h2 := HP (cd0 σ 1)) rfl ?_
    have G : ga_W 2 0 0 0 0 mX11_match (fun v h => (maP σ s d ∧ v = some (Vi (if σ.1 63 18 = 0 ∨ ¬ σ.1 68 (30 * s + d) = 0 then -1 else σ.1 78 (30 * s + d))) ∧ h = HP (cd0 σ 0)) ∨ (¬ maP σ s d ∧ v = some (Vi 0) ∧ h = HP (cd0 σ 1))) ga_nox 46 [some (Vr 63), some (Vi s), some (Vi d)] [] (HP (cd0 σ 1)) := by
      refine ga_aload_n dX11_match_46 rfl ?_
      refine hg_getI 0 grX11_84 dX11_match_47 rfl rfl rfl ?_
      refine ga_if_le (tgt := 57) dX11_match_50 rfl (fun c_50 => ?_) (fun c_50 => ?_)
      · exact absurd c_50 (by rw [k0]; decide)
      · refine ga_iconst dX11_match_53 ⟨by decide, by decide⟩ ?_
        refine ga_goto (tgt := 72) dX11_match_54 rfl ?_
        refine ga_ret (v := some _) ?_ rfl (by decide) (by decide) ⟨dX11_match_72, _, rfl, rfl⟩
        exact Or.inr ⟨c_7, rfl, rfl⟩
    refine ga_aload_n dX11_match_18 rfl ?_
    refine hg_getI 0 grX11_84 dX11_match_19 rfl rfl rfl ?_
    refine ga_if_gt (tgt := 46) dX11_match_22 rfl (fun c_22 => ?_) (fun c_22 => ?_)
    · exact G
    · exact absurd c_22 (by rw [k0]; decide)
  · rw [tv_ne0] at c_7
    have s1 := c_7.1
    have hb := h s1
    have d1 := c_7.2
    have k0 : (cd0 σ 0).1 63 0 = 0 := rfl
    have k18 : (cd0 σ 0).1 63 18 = σ.1 63 18 := rfl
    refine ga_iconst dX11_match_10 ⟨by decide, by decide⟩ ?_
    refine ga_goto (tgt := 15) dX11_match_11 rfl ?_
    refine hg_putI 0 gfX11_84 dX11_match_15 rfl rfl rfl ?_
    refine ga_eqh (h2 := HP (cd0 σ 0)) rfl ?_
    have G : (σ.1 63 18 = 0 ∨ ¬ σ.1 68 (30 * s + d) = 0) → ga_W 2 0 0 0 0 mX11_match (fun v h => (maP σ s d ∧ v = some (Vi (if σ.1 63 18 = 0 ∨ ¬ σ.1 68 (30 * s + d) = 0 then -1 else σ.1 78 (30 * s + d))) ∧ h = HP (cd0 σ 0)) ∨ (¬ maP σ s d ∧ v = some (Vi 0) ∧ h = HP (cd0 σ 1))) ga_nox 46 [some (Vr 63), some (Vi s), some (Vi d)] [] (HP (cd0 σ 0)) := by
      intro hg
      refine ga_aload_n dX11_match_46 rfl ?_
      refine hg_getI 0 grX11_84 dX11_match_47 rfl rfl rfl ?_
      refine ga_if_le (tgt := 57) dX11_match_50 rfl (fun c_50 => ?_) (fun c_50 => ?_)
      · refine ga_iconst dX11_match_57 ⟨by decide, by decide⟩ ?_
        refine ga_goto (tgt := 72) dX11_match_58 rfl ?_
        refine ga_ret (v := some _) ?_ rfl (by decide) (by decide) ⟨dX11_match_72, _, rfl, rfl⟩
        exact Or.inl ⟨c_7, by rw [if_pos hg], rfl⟩
      · exact absurd (by rw [k0]; decide) c_50
    refine ga_aload_n dX11_match_18 rfl ?_
    refine hg_getI 0 grX11_84 dX11_match_19 rfl rfl rfl ?_
    refine ga_if_gt (tgt := 46) dX11_match_22 rfl (fun c_22 => ?_) (fun c_22 => ?_)
    · exact absurd c_22 (by rw [k0]; decide)
    · refine ga_aload_n dX11_match_25 rfl ?_
      refine hg_getI 18 grX11_214 dX11_match_26 rfl rfl rfl ?_
      refine ga_if_eq (tgt := 46) dX11_match_29 rfl (fun c_29 => ?_) (fun c_29 => ?_)
      · rw [k18] at c_29
        exact G (Or.inl c_29)
      · rw [k18] at c_29
        refine ga_aload_n dX11_match_32 rfl ?_
        refine hg_getR grX11_23 dX11_match_33 rfl rfl ?_
        refine ga_bipush dX11_match_36 ⟨by decide, by decide⟩ (by decide) ?_
        refine ga_iload_n dX11_match_38 rfl ?_
        refine ga_imul dX11_match_39 rfl (⟨by omega, by omega⟩) ?_
        refine ga_iload_n dX11_match_40 rfl ?_
        refine ga_iadd (z := (30 * s + d)) dX11_match_41 (by omega) (⟨by omega, by omega⟩) ?_
        refine hg_zald dX11_match_42 rfl (by omega) (by omega) ?_
        refine ga_if_eq (tgt := 61) dX11_match_43 rfl (fun c_43 => ?_) (fun c_43 => ?_)
        · have c9 : σ.1 68 (30 * s + d) = 0 := c_43
          refine ga_aload_n dX11_match_61 rfl ?_
          refine hg_getR grX11_54 dX11_match_62 rfl rfl ?_
          refine ga_bipush dX11_match_65 ⟨by decide, by decide⟩ (by decide) ?_
          refine ga_iload_n dX11_match_67 rfl ?_
          refine ga_imul dX11_match_68 rfl (⟨by omega, by omega⟩) ?_
          refine ga_iload_n dX11_match_69 rfl ?_
          refine ga_iadd (z := (30 * s + d)) dX11_match_70 (by omega) (⟨by omega, by omega⟩) ?_
          refine hg_iald dX11_match_71 rfl (by omega) (by omega) ?_
          refine ga_ret (v := some _) ?_ rfl (by decide) (by decide) ⟨dX11_match_72, _, rfl, rfl⟩
          exact Or.inl ⟨c_7, by rw [if_neg (fun w => w.elim c_29 (fun z => z c9))]; rfl, rfl⟩
        · exact G (Or.inr c_43)
theorem T_X11_netMatch (n : Int) (σ : ga_S) (h : σ.1 65 0 ≤ 40) : ga_Mt 2 0 0 mX11_netMatch [Vr 63, Vi n] (HP σ) (fun v h => ((0 ≤ n ∧ n < σ.1 65 0) ∧ v = some (Vi (if σ.1 63 18 = 0 then -1 else σ.1 79 n)) ∧ h = HP (cd0 σ 0)) ∨ (¬ (0 ≤ n ∧ n < σ.1 65 0) ∧ v = some (Vi 0) ∧ h = HP (cd0 σ 1))) ga_nox := by
  refine ga_meth [some (Vr 63), some (Vi n)] rfl rfl (by decide +kernel) (Nat.le_of_ble_eq_true rfl) rfl ?_
  refine ga_aload_n dX11_netMatch_0 rfl ?_
  refine ga_aload_n dX11_netMatch_1 rfl ?_
  refine ga_iconst dX11_netMatch_2 ⟨by decide, by decide⟩ ?_
  refine ga_iload_n dX11_netMatch_3 rfl ?_
  refine hc_V (T_X11_isNet 0 n σ) fX11_isNet rfl kX11_isNet lkX11_104 dX11_netMatch_4 rfl rfl rfl rfl rfl rfl rfl rfl ?_
  refine ga_if_eq (tgt := 14) dX11_netMatch_7 rfl (fun c_7 => ?_) (fun c_7 => ?_)
  · rw [tv_eq0] at c_7
    have k0 : (cd0 σ 1).1 63 0 = 1 := rfl
    refine ga_iconst dX11_netMatch_14 ⟨by decide, by decide⟩ ?_
    refine hg_putI 0 gfX11_84 dX11_netMatch_15 rfl rfl rfl ?_
    refine ga_eqh (h2 := HP (cd0 σ 1)) rfl ?_
    refine ga_aload_n dX11_netMatch_18 rfl ?_
    refine hg_getI 0 grX11_84 dX11_netMatch_19 rfl rfl rfl ?_
    refine ga_if_le (tgt := 29) dX11_netMatch_22 rfl (fun c_22 => ?_) (fun c_22 => ?_)
    · exact absurd c_22 (by rw [k0]; decide)
    · refine ga_iconst dX11_netMatch_25 ⟨by decide, by decide⟩ ?_
      refine ga_goto (tgt := 46) dX11_netMatch_26 rfl ?_
      refine ga_ret (v := some _) ?_ rfl (by decide) (by decide) ⟨dX11_netMatch_46, _, rfl, rfl⟩
      exact Or.inr ⟨fun w => c_7 ⟨Or.inl rfl, w⟩, rfl, rfl⟩
  · rw [tv_ne0] at c_7
    have d1 := c_7.2
    have k0 : (cd0 σ 0).1 63 0 = 0 := rfl
    have k18 : (cd0 σ 0).1 63 18 = σ.1 63 18 := rfl
    refine ga_iconst dX11_netMatch_10 ⟨by decide, by decide⟩ ?_
    refine ga_goto (tgt := 15) dX11_netMatch_11 rfl ?_
    refine hg_putI 0 gfX11_84 dX11_netMatch_15 rfl rfl rfl ?_
    refine ga_eqh (h2 := HP (cd0 σ 0)) rfl ?_
    refine ga_aload_n dX11_netMatch_18 rfl ?_
    refine hg_getI 0 grX11_84 dX11_netMatch_19 rfl rfl rfl ?_
    refine ga_if_le (tgt := 29) dX11_netMatch_22 rfl (fun c_22 => ?_) (fun c_22 => ?_)
    · refine ga_aload_n dX11_netMatch_29 rfl ?_
      refine hg_getI 18 grX11_214 dX11_netMatch_30 rfl rfl rfl ?_
      refine ga_if_eq (tgt := 45) dX11_netMatch_33 rfl (fun c_33 => ?_) (fun c_33 => ?_)
      · rw [k18] at c_33
        refine ga_iconst dX11_netMatch_45 ⟨by decide, by decide⟩ ?_
        refine ga_ret (v := some _) ?_ rfl (by decide) (by decide) ⟨dX11_netMatch_46, _, rfl, rfl⟩
        exact Or.inl ⟨d1, by rw [if_pos c_33], rfl⟩
      · rw [k18] at c_33
        refine ga_aload_n dX11_netMatch_36 rfl ?_
        refine hg_getR grX11_57 dX11_netMatch_37 rfl rfl ?_
        refine ga_iload_n dX11_netMatch_40 rfl ?_
        refine hg_iald dX11_netMatch_41 rfl (by omega) (by omega) ?_
        refine ga_goto (tgt := 46) dX11_netMatch_42 rfl ?_
        refine ga_ret (v := some _) ?_ rfl (by decide) (by decide) ⟨dX11_netMatch_46, _, rfl, rfl⟩
        exact Or.inl ⟨d1, by rw [if_neg c_33]; rfl, rfl⟩
    · exact absurd (by rw [k0]; decide) c_22
def dfP (σ : ga_S) (k w : Int) : Prop := (0 ≤ k ∧ k < σ.1 63 17) ∧ 0 ≤ w ∧ w < 4
theorem T_X11_differs (k w : Int) (σ : ga_S) (h : σ.1 63 17 ≤ 200) : ga_Mt 0 0 0 mX11_differs [Vr 63, Vi k, Vi w] (HP σ) (fun v h => (dfP σ k w ∧ v = some (Vi (σ.1 77 (k * 4 + w))) ∧ h = HP (cd0 σ 0)) ∨ (¬ dfP σ k w ∧ v = some (Vi 0) ∧ h = HP (cd0 σ 1))) ga_nox := by
  refine ga_meth [some (Vr 63), some (Vi k), some (Vi w)] rfl rfl (by decide +kernel) (Nat.le_of_ble_eq_true rfl) rfl ?_
  have E : ¬ dfP σ k w → ga_W 0 0 0 0 0 mX11_differs (fun v h => (dfP σ k w ∧ v = some (Vi (σ.1 77 (k * 4 + w))) ∧ h = HP (cd0 σ 0)) ∨ (¬ dfP σ k w ∧ v = some (Vi 0) ∧ h = HP (cd0 σ 1))) ga_nox 22 [some (Vr 63), some (Vi k), some (Vi w)] [Vr 63] (HP σ) := by
    intro hn
    have k0 : (cd0 σ 1).1 63 0 = 1 := rfl
    refine ga_iconst dX11_differs_22 ⟨by decide, by decide⟩ ?_
    refine ga_goto (tgt := 27) dX11_differs_23 rfl ?_
    refine hg_putI 0 gfX11_84 dX11_differs_27 rfl rfl rfl ?_
    refine ga_eqh (h2 := HP (cd0 σ 1)) rfl ?_
    refine ga_aload_n dX11_differs_30 rfl ?_
    refine hg_getI 0 grX11_84 dX11_differs_31 rfl rfl rfl ?_
    refine ga_if_le (tgt := 41) dX11_differs_34 rfl (fun c_34 => ?_) (fun c_34 => ?_)
    · exact absurd c_34 (by rw [k0]; decide)
    · refine ga_iconst dX11_differs_37 ⟨by decide, by decide⟩ ?_
      refine ga_goto (tgt := 51) dX11_differs_38 rfl ?_
      refine ga_ret (v := some _) ?_ rfl (by decide) (by decide) ⟨dX11_differs_51, _, rfl, rfl⟩
      exact Or.inr ⟨hn, rfl, rfl⟩
  refine ga_aload_n dX11_differs_0 rfl ?_
  refine ga_iload_n dX11_differs_1 rfl ?_
  refine ga_if_lt (tgt := 22) dX11_differs_2 rfl (fun c_2 => ?_) (fun c_2 => ?_)
  · exact E (fun z => by have := z.1.1; omega)
  · refine ga_iload_n dX11_differs_5 rfl ?_
    refine ga_aload_n dX11_differs_6 rfl ?_
    refine hg_getI 17 grX11_218 dX11_differs_7 rfl rfl rfl ?_
    refine ga_icmp_ge (tgt := 22) dX11_differs_10 rfl (fun c_10 => ?_) (fun c_10 => ?_)
    · exact E (fun z => by have := z.1.2; omega)
    · refine ga_iload_n dX11_differs_13 rfl ?_
      refine ga_if_lt (tgt := 22) dX11_differs_14 rfl (fun c_14 => ?_) (fun c_14 => ?_)
      · exact E (fun z => by have := z.2.1; omega)
      · refine ga_iload_n dX11_differs_17 rfl ?_
        refine ga_iconst dX11_differs_18 ⟨by decide, by decide⟩ ?_
        refine ga_icmp_le (tgt := 26) dX11_differs_19 rfl (fun c_19 => ?_) (fun c_19 => ?_)
        · have k0 : (cd0 σ 0).1 63 0 = 0 := rfl
          refine ga_iconst dX11_differs_26 ⟨by decide, by decide⟩ ?_
          refine hg_putI 0 gfX11_84 dX11_differs_27 rfl rfl rfl ?_
          refine ga_eqh (h2 := HP (cd0 σ 0)) rfl ?_
          refine ga_aload_n dX11_differs_30 rfl ?_
          refine hg_getI 0 grX11_84 dX11_differs_31 rfl rfl rfl ?_
          refine ga_if_le (tgt := 41) dX11_differs_34 rfl (fun c_34 => ?_) (fun c_34 => ?_)
          · refine ga_aload_n dX11_differs_41 rfl ?_
            refine hg_getR grX11_51 dX11_differs_42 rfl rfl ?_
            refine ga_iconst dX11_differs_45 ⟨by decide, by decide⟩ ?_
            refine ga_iload_n dX11_differs_46 rfl ?_
            refine ga_imul (z := (k * 4)) dX11_differs_47 (by omega) (⟨by omega, by omega⟩) ?_
            refine ga_iload_n dX11_differs_48 rfl ?_
            refine ga_iadd dX11_differs_49 rfl (⟨by omega, by omega⟩) ?_
            refine hg_iald dX11_differs_50 rfl (by omega) (by omega) ?_
            refine ga_ret (v := some _) ?_ rfl (by decide) (by decide) ⟨dX11_differs_51, _, rfl, rfl⟩
            exact Or.inl ⟨⟨⟨by omega, by omega⟩, by omega, by omega⟩, rfl, rfl⟩
          · exact absurd (by rw [k0]; decide) c_34
        · exact E (fun z => by have := z.2.2; omega)
theorem T_X11_rounds (σ : ga_S) : ga_Mt 0 0 0 mX11_rounds [Vr 63] (HP σ) (gis (some (Vi (σ.1 63 14))) (cd0 σ 0)) ga_nox := by
  refine ga_meth [some (Vr 63)] rfl rfl (by decide +kernel) (Nat.le_of_ble_eq_true rfl) rfl ?_
  refine ga_aload_n dX11_rounds_0 rfl ?_
  refine ga_iconst dX11_rounds_1 ⟨by decide, by decide⟩ ?_
  refine hg_putI 0 gfX11_84 dX11_rounds_2 rfl rfl rfl ?_
  refine ga_aload_n dX11_rounds_5 rfl ?_
  refine hg_getI 14 grX11_162 dX11_rounds_6 rfl rfl rfl ?_
  refine ga_ret (v := some _) ?_ rfl (by decide) (by decide) ⟨dX11_rounds_9, _, rfl, rfl⟩
  exact ⟨rfl, rfl⟩
theorem T_X11_tried (σ : ga_S) : ga_Mt 0 0 0 mX11_tried [Vr 63] (HP σ) (gis (some (Vi (σ.1 63 15))) (cd0 σ 0)) ga_nox := by
  refine ga_meth [some (Vr 63)] rfl rfl (by decide +kernel) (Nat.le_of_ble_eq_true rfl) rfl ?_
  refine ga_aload_n dX11_tried_0 rfl ?_
  refine ga_iconst dX11_tried_1 ⟨by decide, by decide⟩ ?_
  refine hg_putI 0 gfX11_84 dX11_tried_2 rfl rfl rfl ?_
  refine ga_aload_n dX11_tried_5 rfl ?_
  refine hg_getI 15 grX11_168 dX11_tried_6 rfl rfl rfl ?_
  refine ga_ret (v := some _) ?_ rfl (by decide) (by decide) ⟨dX11_tried_9, _, rfl, rfl⟩
  exact ⟨rfl, rfl⟩
