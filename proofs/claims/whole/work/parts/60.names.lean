-- Differences: names, classes
def hasN (p : Int → Int) (N : Nat) (a : Int) : Prop := firstF (fun n => decide (p n ≠ -1 ∧ p n = a)) N 0 ≠ -1
noncomputable def nmL (p q : Int → Int) (N M : Nat) : Nat → Int → List d4
  | 0, _ => []
  | n + 1, a => tif (unev p q N M 80 a = -1) [] ((3, unev p q N M 80 a, tv (hasN p N (unev p q N M 80 a)), 1 - tv (hasN p N (unev p q N M 80 a))) :: nmL p q N M n (unev p q N M 80 a))
theorem nmL_s (p q : Int → Int) (N M n : Nat) (a : Int) : nmL p q N M (n + 1) a = tif (unev p q N M 80 a = -1) [] ((3, unev p q N M 80 a, tv (hasN p N (unev p q N M 80 a)), 1 - tv (hasN p N (unev p q N M 80 a))) :: nmL p q N M n (unev p q N M 80 a)) := rfl
theorem T_X2_listNames (σ : ga_S) (N M : Nat) (l : List d4) (hN : σ.1 2 0 = N) (hN2 : N ≤ 40) (hM : σ.1 9 0 = M) (hM2 : M ≤ 40) (h : dlh (σ.1 61) (σ.1 60 0) l) (hl : l.length ≤ 9) : ga_Mt 2 0 0 mX2_listNames [Vr 60, Vr 1] (HP σ) (fun v h => ∃ τ, exc DC σ τ ∧ dlh (τ.1 61) (τ.1 60 0) (l ++ nmL (σ.1 3) (σ.1 10) N M 80 (-1)) ∧ v = none ∧ h = HP τ) ga_nox := by
  refine ga_meth [some (Vr 60), some (Vr 1), none, none, none, none] rfl rfl (by decide +kernel) (Nat.le_of_ble_eq_true rfl) rfl ?_
  refine ga_iconst dX2_listNames_0 ⟨by decide, by decide⟩ ?_
  refine ga_istore_n (lv2 := [_, _, _, _, _, _]) dX2_listNames_1 (by decide) rfl rfl ?_
  refine ga_iconst dX2_listNames_2 ⟨by decide, by decide⟩ ?_
  refine ga_istore_n (lv2 := [_, _, _, _, _, _]) dX2_listNames_3 (by decide) rfl rfl ?_
  refine (ga_loop 80 (fun i => ∀ τ (a : Int) (l2 : List d4) y z, exc DC σ τ → dlh (τ.1 61) (τ.1 60 0) l2 → l2.length ≤ 9 + i → l2 ++ nmL (σ.1 3) (σ.1 10) N M (80 - i) a = l ++ nmL (σ.1 3) (σ.1 10) N M 80 (-1) → ga_W 2 0 0 0 0 mX2_listNames (fun v h => ∃ τ, exc DC σ τ ∧ dlh (τ.1 61) (τ.1 60 0) (l ++ nmL (σ.1 3) (σ.1 10) N M 80 (-1)) ∧ v = none ∧ h = HP τ) ga_nox 4 [some (Vr 60), some (Vr 1), some (Vi a), some (Vi (i : Int)), y, z] [] (HP τ)) ?_ ?_ 0 (Nat.zero_le _) σ (-1) l none none exc_r h (by omega) rfl : _)
  · intro τ a l2 y z hx h1 h2 h3
    rw [Nat.sub_self] at h3
    have h4 : l2 = l ++ nmL (σ.1 3) (σ.1 10) N M 80 (-1) := by rw [← h3]; exact (List.append_nil _).symm
    refine ga_iload_n dX2_listNames_4 rfl ?_
    refine ga_bipush dX2_listNames_5 ⟨by decide, by decide⟩ (by decide) ?_
    refine ga_icmp_ge (tgt := 80) dX2_listNames_7 rfl (fun c_7 => ?_) (fun c_7 => ?_)
    · refine ga_ret (v := none) ?_ rfl (by decide) (by decide) ⟨dX2_listNames_80, rfl⟩
      exact ⟨τ, hx, by rw [← h4]; exact h1, rfl, rfl⟩
    · omega
  · intro i hi k τ a l2 y z hx h1 h2 h3
    have e2 : τ.1 2 0 = N := by rw [hx.1 2 (by decide)]; exact hN
    have e9 : τ.1 9 0 = M := by rw [hx.1 9 (by decide)]; exact hM
    have e3 := hx.1 3 (by decide)
    have e10 := hx.1 10 (by decide)
    rw [show 80 - i = (80 - (i + 1)) + 1 by omega, nmL_s] at h3
    have hle := h1.1
    refine ga_iload_n dX2_listNames_4 rfl ?_
    refine ga_bipush dX2_listNames_5 ⟨by decide, by decide⟩ (by decide) ?_
    refine ga_icmp_ge (tgt := 80) dX2_listNames_7 rfl (fun c_7 => ?_) (fun c_7 => ?_)
    · omega
    · refine ga_aload_n dX2_listNames_10 rfl ?_
      refine ga_iload_n dX2_listNames_11 rfl ?_
      refine hc_V (T_X1_nextUnevenName a τ N M e2 hN2 e9 hM2) fX1_nextUnevenName rfl kX1_nextUnevenName lkX2_60 dX2_listNames_12 rfl rfl rfl rfl rfl rfl rfl rfl ?_
      rw [e3, e10]
      refine ga_istore (lv2 := [_, _, _, _, _, _]) dX2_listNames_15 (by decide) rfl rfl ?_
      refine ga_iload dX2_listNames_17 rfl ?_
      refine ga_iconst dX2_listNames_19 ⟨by decide, by decide⟩ ?_
      refine ga_icmp_ne (tgt := 24) dX2_listNames_20 rfl (fun c_20 => ?_) (fun c_20 => ?_)
      · have c9 : ¬ unev (σ.1 3) (σ.1 10) N M 80 a = -1 := c_20
        rw [tif0 c9] at h3
        revert h3 c9
        generalize unev (σ.1 3) (σ.1 10) N M 80 a = nm
        intro h3 c9
        have NEXT : ∀ u w : Int, u = tv (hasN (σ.1 3) N nm) → w = 1 - tv (hasN (σ.1 3) N nm) → ga_W 2 0 0 0 0 mX2_listNames (fun v h => ∃ τ, exc DC σ τ ∧ dlh (τ.1 61) (τ.1 60 0) (l ++ nmL (σ.1 3) (σ.1 10) N M 80 (-1)) ∧ v = none ∧ h = HP τ) ga_nox 68 [some (Vr 60), some (Vr 1), some (Vi a), some (Vi (i : Int)), some (Vi nm), some (Vi u)] [Vi w, Vi u, Vi nm, Vi 3, Vr 60] (HP τ) := by
          intro u w hu hw
          refine hc_Vv (T_X2_add 3 nm u w τ (τ.1 60 0) rfl (by omega) (by omega)) fX2_add rfl kX2_add lkX2_37 dX2_listNames_68 rfl rfl rfl rfl rfl rfl rfl rfl ?_
          refine ga_iload dX2_listNames_71 rfl ?_
          refine ga_istore_n (lv2 := [_, _, _, _, _, _]) dX2_listNames_73 (by decide) rfl rfl ?_
          refine ga_iinc (z := ((i + 1 : Nat) : Int)) (lv2 := [_, _, _, _, _, _]) dX2_listNames_74 (by decide) rfl rfl (by omega) (⟨by omega, by omega⟩) rfl ?_
          refine ga_goto (tgt := 4) dX2_listNames_77 rfl ?_
          refine k _ nm (l2 ++ [(3, nm, u, w)]) _ _ (exc_st (exc_st hx (by decide)) (by decide)) (dlh_add h1) (by rw [List.length_append]; show _ + 1 ≤ _; omega) ?_
          rw [hu, hw, List.append_assoc]
          exact h3
        refine ga_aload_n dX2_listNames_24 rfl ?_
        refine hg_getR grX2_41 dX2_listNames_25 rfl rfl ?_
        refine ga_iload dX2_listNames_28 rfl ?_
        refine hc_V (T_X9_portNamed_2 nm τ N e2 hN2) fX9_portNamed rfl kX9_portNamed lkX2_63 dX2_listNames_30 rfl rfl rfl rfl rfl rfl rfl rfl ?_
        rw [e3]
        refine ga_iconst dX2_listNames_33 ⟨by decide, by decide⟩ ?_
        refine ga_icmp_eq (tgt := 41) dX2_listNames_34 rfl (fun c_34 => ?_) (fun c_34 => ?_)
        · have c8 : ¬ hasN (σ.1 3) N nm := fun z => z c_34
          refine ga_iconst dX2_listNames_41 ⟨by decide, by decide⟩ ?_
          refine ga_istore (lv2 := [_, _, _, _, _, _]) dX2_listNames_42 (by decide) rfl rfl ?_
          refine ga_aload_n dX2_listNames_44 rfl ?_
          refine ga_iconst dX2_listNames_45 ⟨by decide, by decide⟩ ?_
          refine ga_iload dX2_listNames_46 rfl ?_
          refine ga_iload dX2_listNames_48 rfl ?_
          refine ga_if_eq (tgt := 57) dX2_listNames_50 rfl (fun c_50 => ?_) (fun c_50 => ?_)
          · refine ga_iconst dX2_listNames_57 ⟨by decide, by decide⟩ ?_
            refine ga_iload dX2_listNames_58 rfl ?_
            refine ga_if_eq (tgt := 67) dX2_listNames_60 rfl (fun c_60 => ?_) (fun c_60 => ?_)
            · refine ga_iconst dX2_listNames_67 ⟨by decide, by decide⟩ ?_
              exact NEXT 0 1 (tvz c8).symm (by rw [tvz c8]; rfl)
            · exact absurd rfl c_60
          · exact absurd rfl c_50
        · have c8 : hasN (σ.1 3) N nm := c_34
          refine ga_iconst dX2_listNames_37 ⟨by decide, by decide⟩ ?_
          refine ga_goto (tgt := 42) dX2_listNames_38 rfl ?_
          refine ga_istore (lv2 := [_, _, _, _, _, _]) dX2_listNames_42 (by decide) rfl rfl ?_
          refine ga_aload_n dX2_listNames_44 rfl ?_
          refine ga_iconst dX2_listNames_45 ⟨by decide, by decide⟩ ?_
          refine ga_iload dX2_listNames_46 rfl ?_
          refine ga_iload dX2_listNames_48 rfl ?_
          refine ga_if_eq (tgt := 57) dX2_listNames_50 rfl (fun c_50 => ?_) (fun c_50 => ?_)
          · exact absurd c_50 (by decide)
          · refine ga_iconst dX2_listNames_53 ⟨by decide, by decide⟩ ?_
            refine ga_goto (tgt := 58) dX2_listNames_54 rfl ?_
            refine ga_iload dX2_listNames_58 rfl ?_
            refine ga_if_eq (tgt := 67) dX2_listNames_60 rfl (fun c_60 => ?_) (fun c_60 => ?_)
            · exact absurd c_60 (by decide)
            · refine ga_iconst dX2_listNames_63 ⟨by decide, by decide⟩ ?_
              refine ga_goto (tgt := 68) dX2_listNames_64 rfl ?_
              exact NEXT 1 0 (tv1 c8).symm (by rw [tv1 c8]; rfl)
      · have c9 : unev (σ.1 3) (σ.1 10) N M 80 a = -1 := c_20
        rw [tif1 c9, List.append_nil] at h3
        refine ga_ret (v := none) ?_ rfl (by decide) (by decide) ⟨dX2_listNames_23, rfl⟩
        exact ⟨τ, hx, by rw [← h3]; exact h1, rfl, rfl⟩
theorem T_X2_listClass (p d : Int) (σ : ga_S) (l : List d4) (h : dlh (σ.1 61) (σ.1 60 0) l) (hl : l.length < 89) (h1 : 0 ≤ p) (h2 : p < 60) : ga_Mt 1 0 0 mX2_listClass [Vr 60, Vr 21, Vi p, Vi d] (HP σ) (fun v h => ∃ τ, exc DC σ τ ∧ dlh (τ.1 61) (τ.1 60 0) (l ++ tif (σ.1 62 p = 0 ∧ σ.1 36 p ≠ σ.1 37 p) [(4, d, σ.1 36 p, σ.1 37 p)] []) ∧ τ.1 62 = ga_up (σ.1 62) p 1 ∧ v = none ∧ h = HP τ) ga_nox := by
  have hle := h.1
  refine ga_meth [some (Vr 60), some (Vr 21), some (Vi p), some (Vi d), none, none] rfl rfl (by decide +kernel) (Nat.le_of_ble_eq_true rfl) rfl ?_
  refine ga_aload_n dX2_listClass_0 rfl ?_
  refine hg_getR grX2_86 dX2_listClass_1 rfl rfl ?_
  refine ga_iload_n dX2_listClass_4 rfl ?_
  refine hg_iald dX2_listClass_5 rfl (by omega) (by omega) ?_
  refine ga_istore (lv2 := [_, _, _, _, _, _]) dX2_listClass_6 (by decide) rfl rfl ?_
  refine ga_aload_n dX2_listClass_8 rfl ?_
  refine hg_getR grX2_89 dX2_listClass_9 rfl rfl ?_
  refine ga_iload_n dX2_listClass_12 rfl ?_
  refine hg_iald dX2_listClass_13 rfl (by omega) (by omega) ?_
  refine ga_istore (lv2 := [_, _, _, _, _, _]) dX2_listClass_14 (by decide) rfl rfl ?_
  refine ga_aload_n dX2_listClass_16 rfl ?_
  refine hg_getR grX2_19 dX2_listClass_17 rfl rfl ?_
  refine ga_iload_n dX2_listClass_20 rfl ?_
  refine hg_zald dX2_listClass_21 rfl (by omega) (by omega) ?_
  refine ga_if_ne (tgt := 42) dX2_listClass_22 rfl (fun c_22 => ?_) (fun c_22 => ?_)
  · refine ga_aload_n dX2_listClass_42 rfl ?_
    refine hg_getR grX2_19 dX2_listClass_43 rfl rfl ?_
    refine ga_iload_n dX2_listClass_46 rfl ?_
    refine ga_iconst dX2_listClass_47 ⟨by decide, by decide⟩ ?_
    refine hg_zast dX2_listClass_48 rfl (by omega) (by omega) (by omega) ?_
    refine ga_ret (v := none) ?_ rfl (by decide) (by decide) ⟨dX2_listClass_49, rfl⟩
    refine ⟨_, exc_st exc_r (by decide), ?_, rfl, rfl, rfl⟩
    rw [tif0 (fun z => c_22 z.1), List.append_nil]
    exact h
  · refine ga_iload dX2_listClass_25 rfl ?_
    refine ga_iload dX2_listClass_27 rfl ?_
    refine ga_icmp_eq (tgt := 42) dX2_listClass_29 rfl (fun c_29 => ?_) (fun c_29 => ?_)
    · refine ga_aload_n dX2_listClass_42 rfl ?_
      refine hg_getR grX2_19 dX2_listClass_43 rfl rfl ?_
      refine ga_iload_n dX2_listClass_46 rfl ?_
      refine ga_iconst dX2_listClass_47 ⟨by decide, by decide⟩ ?_
      refine hg_zast dX2_listClass_48 rfl (by omega) (by omega) (by omega) ?_
      refine ga_ret (v := none) ?_ rfl (by decide) (by decide) ⟨dX2_listClass_49, rfl⟩
      refine ⟨_, exc_st exc_r (by decide), ?_, rfl, rfl, rfl⟩
      rw [tif0 (fun z => z.2 c_29), List.append_nil]
      exact h
    · refine ga_aload_n dX2_listClass_32 rfl ?_
      refine ga_iconst dX2_listClass_33 ⟨by decide, by decide⟩ ?_
      refine ga_iload_n dX2_listClass_34 rfl ?_
      refine ga_iload dX2_listClass_35 rfl ?_
      refine ga_iload dX2_listClass_37 rfl ?_
      refine hc_Vv (T_X2_add 4 d _ _ σ (σ.1 60 0) rfl (by omega) (by omega)) fX2_add rfl kX2_add lkX2_37 dX2_listClass_39 rfl rfl rfl rfl rfl rfl rfl rfl ?_
      refine ga_aload_n dX2_listClass_42 rfl ?_
      refine hg_getR grX2_19 dX2_listClass_43 rfl rfl ?_
      refine ga_iload_n dX2_listClass_46 rfl ?_
      refine ga_iconst dX2_listClass_47 ⟨by decide, by decide⟩ ?_
      refine hg_zast dX2_listClass_48 rfl (by omega) (by omega) (by omega) ?_
      refine ga_ret (v := none) ?_ rfl (by decide) (by decide) ⟨dX2_listClass_49, rfl⟩
      refine ⟨_, exc_st (exc_st (exc_st exc_r (by decide)) (by decide)) (by decide), ?_, rfl, rfl, rfl⟩
      rw [tif1 ⟨c_22, c_29⟩]
      exact dlh_add h
