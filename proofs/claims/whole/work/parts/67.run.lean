-- the face: run
theorem lc_lt {x y : Int} : (if y < x then (1 : Int) else if x = y then 0 else -1) < 0 ↔ x < y := by
  split
  · omega
  · split <;> omega
theorem lc_le {x y : Int} : (if y < x then (1 : Int) else if x = y then 0 else -1) ≤ 0 ↔ x ≤ y := by
  split
  · omega
  · split <;> omega
theorem T_X10_run_X (x : Int) (σ : ga_S) (hx : x < 0 ∨ 2000 < x) : ga_Mt 6 1 6 mX10_run [Vr 0, Vl x] (HP σ) no_v (thr xA σ) := by
  refine ga_meth [some (Vr 0), some (Vl x), none, none] rfl rfl (by decide +kernel) (Nat.le_of_ble_eq_true rfl) rfl ?_
  refine ga_lload_n dX10_run_0 rfl ?_
  refine ga_lconst (z := 0) dX10_run_1 ⟨by decide, by decide⟩ rfl ?_
  refine ga_lcmp dX10_run_2 ?_
  refine ga_if_lt (tgt := 14) dX10_run_3 rfl (fun c_3 => ?_) (fun c_3 => ?_)
  · refine ga_throw (text := "no such number of tries") tf_78 (by decide +kernel) rfl dX10_run_14 dX10_run_17 dX10_run_18 dX10_run_20 dX10_run_23 (by decide) (Nat.le_of_ble_eq_true rfl) (by decide) (by decide) ?_
    exact ⟨rfl, rfl⟩
  · refine ga_lload_n dX10_run_6 rfl ?_
    refine ga_ldc2l (z := 2000) dX10_run_7 cnX10_162 rfl ⟨by decide, by decide⟩ ?_
    refine ga_lcmp dX10_run_10 ?_
    refine ga_if_le (tgt := 24) dX10_run_11 rfl (fun c_11 => ?_) (fun c_11 => ?_)
    · rw [lc_lt] at c_3
      rw [lc_le] at c_11
      omega
    · refine ga_throw (text := "no such number of tries") tf_78 (by decide +kernel) rfl dX10_run_14 dX10_run_17 dX10_run_18 dX10_run_20 dX10_run_23 (by decide) (Nat.le_of_ble_eq_true rfl) (by decide) (by decide) ?_
      exact ⟨rfl, rfl⟩
abbrev RC : List Nat := [0, 4, 11, 21, 22, 23, 24, 25, 26, 27, 28, 29, 30, 31, 32, 33, 34, 35, 36, 37, 38, 39, 40, 41, 42, 43, 44, 45, 46, 47, 48, 49, 50, 51, 52, 53, 54, 55, 56, 57, 58, 59, 60, 61, 62]
/-- kept and listed rows forgotten -/
abbrev fgt (σ : ga_S) : ga_S := stI (stI (stI (stI (stI (stI σ 55 (ga_up (σ.1 55) 0 0)) 56 (fillF (σ.1 56) (30 : Nat) (-1))) 57 (fillF (σ.1 57) (30 : Nat) (-1))) 58 (fillF (σ.1 58) (40 : Nat) (-1))) 59 (fillF (σ.1 59) (40 : Nat) (-1))) 60 (ga_up (σ.1 60) 0 0)
theorem fgt_exc (σ : ga_S) : exc [55, 56, 57, 58, 59, 60] σ (fgt σ) := exc_st (exc_st (exc_st (exc_st (exc_st (exc_st exc_r (by decide)) (by decide)) (by decide)) (by decide)) (by decide)) (by decide)
/-- run, up to the classes: σ with what is there then -/
def RN0 (σ β : ga_S) (N D M E K : Nat) (τ : ga_S) : Prop := exc (4 :: 11 :: 55 :: 56 :: 57 :: 58 :: 59 :: 60 :: CD2) σ τ ∧ dsg τ β N D M E ∧ (∃ P : Nat, numb 60 (bL β) (τ.1 23) P (RDN β K).1) ∧ τ.1 21 2 = K ∧ (∃ o, τ.1 36 = cmF (τ.1 23) (τ.1 7) 0 o D) ∧ (∃ o, τ.1 37 = cmF (τ.1 23) (τ.1 14) 1 o E) ∧ τ.1 55 0 = 0 ∧ τ.1 60 0 = 0 ∧ (∀ i : Int, 0 ≤ i → i < 30 → τ.1 56 i = -1 ∧ τ.1 57 i = -1) ∧ (∀ i : Int, 0 ≤ i → i < 40 → τ.1 58 i = -1 ∧ τ.1 59 i = -1)
theorem W_run0 {P : ga_Po} {X : ga_Px} (x : Int) (σ β : ga_S) (N D M E K : Nat) (z : Option ga_V) (hx : 0 ≤ x ∧ x ≤ 2000) (h : dsb σ β N D M E) (hp : prtB β) (hK : isK β K)
    (k : ∀ τ, RN0 σ β N D M E K τ → ga_W 6 0 0 0 0 mX10_run P X 58 [some (Vr 0), some (Vl x), none, some (Vi 0)] [] (HP τ)) : ga_W 6 0 0 0 0 mX10_run P X 0 [some (Vr 0), some (Vl x), none, z] [] (HP σ) := by
  refine ga_lload_n dX10_run_0 rfl ?_
  refine ga_lconst (z := 0) dX10_run_1 ⟨by decide, by decide⟩ rfl ?_
  refine ga_lcmp dX10_run_2 ?_
  refine ga_if_lt (tgt := 14) dX10_run_3 rfl (fun c_3 => ?_) (fun c_3 => ?_)
  · rw [lc_lt] at c_3
    omega
  · refine ga_lload_n dX10_run_6 rfl ?_
    refine ga_ldc2l (z := 2000) dX10_run_7 cnX10_162 rfl ⟨by decide, by decide⟩ ?_
    refine ga_lcmp dX10_run_10 ?_
    refine ga_if_le (tgt := 24) dX10_run_11 rfl (fun c_11 => ?_) (fun c_11 => ?_)
    · refine ga_aload_n dX10_run_24 rfl ?_
      refine hg_getR grX10_40 dX10_run_25 rfl rfl ?_
      refine hc_Vv (T_X5_forget σ) fX5_forget rfl kX5_forget lkX10_166 dX10_run_28 rfl rfl rfl rfl rfl rfl rfl rfl ?_
      refine ga_aload_n dX10_run_31 rfl ?_
      refine hg_getR grX10_47 dX10_run_32 rfl rfl ?_
      refine hc_Vv (T_X2_forget _) fX2_forget rfl kX2_forget lkX10_169 dX10_run_35 rfl rfl rfl rfl rfl rfl rfl rfl ?_
      refine ga_aload_n dX10_run_38 rfl ?_
      refine hg_getR grX10_10 dX10_run_39 rfl rfl ?_
      have hb : dsb (fgt σ) β N D M E := dsb_exc (fgt_exc σ) (by decide) h
      refine hc_Vv (T_X1_mark (fgt σ) β N D M E hb) fX1_markUsedNets rfl kX1_markUsedNets lkX10_170 dX10_run_42 rfl rfl rfl rfl rfl rfl rfl rfl ?_
      refine ga_aload_n dX10_run_45 rfl ?_
      refine hg_getR grX10_26 dX10_run_46 rfl rfl ?_
      refine ga_aload_n dX10_run_49 rfl ?_
      refine hg_getR grX10_10 dX10_run_50 rfl rfl ?_
      refine hc_VP (T_X0_divide (mkU (fgt σ)) β N D M E K (mkU_dsg hb) hp hK) fX0_divide rfl kX0_divide lkX10_173 dX10_run_53 rfl rfl rfl rfl rfl rfl rfl rfl ?_
      rintro v h ⟨τ, P2, x1, x2, x3, x4, x5, x6, x7⟩
      rw [x6, x7]
      refine ga_iconst dX10_run_56 ⟨by decide, by decide⟩ ?_
      refine ga_istore_n (lv2 := [_, _, _, _]) dX10_run_57 (by decide) rfl rfl ?_
      have x0 : exc [4, 11, 55, 56, 57, 58, 59, 60] σ (mkU (fgt σ)) := exc_tr (fgt_exc σ) (mkU_exc (fgt σ)) (by decide) (by decide)
      refine k τ ⟨exc_tr x0 x1 (by decide) (by decide), dsg_exc x1 (by decide) (mkU_dsg hb), ⟨P2, x2⟩, x3, ⟨(mkU (fgt σ)).1 36, ?_⟩, ⟨(mkU (fgt σ)).1 37, ?_⟩, ?_, ?_, ?_, ?_⟩
      · rw [x1.1 7 (by decide)]; exact x4
      · rw [x1.1 14 (by decide)]; exact x5
      · rw [x1.1 55 (by decide)]
        show ga_up (σ.1 55) 0 0 0 = 0
        exact ga_up_at _ _ _
      · rw [x1.1 60 (by decide)]
        show ga_up (σ.1 60) 0 0 0 = 0
        exact ga_up_at _ _ _
      · intro i a b
        rw [x1.1 56 (by decide), x1.1 57 (by decide)]
        exact ⟨fillF_in ⟨a, b⟩, fillF_in ⟨a, b⟩⟩
      · intro i a b
        rw [x1.1 58 (by decide), x1.1 59 (by decide)]
        exact ⟨fillF_in ⟨a, b⟩, fillF_in ⟨a, b⟩⟩
    · rw [lc_le] at c_11
      omega
