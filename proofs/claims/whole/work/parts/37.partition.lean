-- Partition
/-- a code put into a row of m codes that starts at s -/
def insR (s c : Int) : Nat → (Int → Int) → Int → Int
  | 0, f => ga_up f s c
  | m + 1, f => if c < f (s + m) then insR s c m (ga_up f (s + m + 1) (f (s + m))) else ga_up f (s + m + 1) c
/-- the same but for these cells -/
def exc (L : List Nat) (σ τ : ga_S) : Prop := (∀ c, c ∉ L → τ.1 c = σ.1 c) ∧ τ.2 = σ.2
theorem exc_r {L : List Nat} {σ : ga_S} : exc L σ σ := ⟨fun _ _ => rfl, rfl⟩
theorem exc_st {L : List Nat} {σ τ : ga_S} {q : Nat} {f : Int → Int} (h : exc L σ τ) (hq : q ∈ L) : exc L σ (stI τ q f) :=
  ⟨fun c hc => by rw [stI_ne τ f (fun z => hc (by rw [z]; exact hq))]; exact h.1 c hc, h.2⟩
theorem exc_tr {L L1 L2 : List Nat} {σ τ υ : ga_S} (h : exc L1 σ τ) (g : exc L2 τ υ) (h1 : ∀ c, c ∈ L1 → c ∈ L) (h2 : ∀ c, c ∈ L2 → c ∈ L) : exc L σ υ :=
  ⟨fun c hc => by rw [g.1 c (fun z => hc (h2 c z)), h.1 c (fun z => hc (h1 c z))], by rw [g.2, h.2]⟩
theorem exc_m {L1 L2 : List Nat} {σ τ : ga_S} (h : exc L1 σ τ) (h1 : ∀ c, c ∈ L1 → c ∈ L2) : exc L2 σ τ := exc_tr h exc_r h1 (fun _ z => z)
/-- the rows of codes of two things are the same -/
def smC (f cc : Int → Int) (K u v : Int) : Prop := cc u = cc v ∧ ∀ i : Nat, (i : Int) < cc u → f (u * K + i) = f (v * K + i)
/-- x is the last of the parts before b that are of class c, or -1 -/
def prv (oc : Int → Int) (c b x : Int) : Prop := (x = -1 ∨ (0 ≤ x ∧ x < b ∧ oc x = c)) ∧ ∀ p : Int, x < p → 0 ≤ p → p < b → oc p ≠ c
theorem T_X7_forgetCodes_22 (σ : ga_S) : ga_Mt 1 0 0 mX7_forgetCodes [Vr 22] (HP σ) (gis none (stI σ 25 (fillF (σ.1 25) (60 : Nat) 0))) ga_nox := by
  refine ga_meth [some (Vr 22)] rfl rfl (by decide +kernel) (Nat.le_of_ble_eq_true rfl) rfl ?_
  refine ga_aload_n dX7_forgetCodes_0 rfl ?_
  refine hg_getR grX7_28 dX7_forgetCodes_1 rfl rfl ?_
  refine ga_iconst dX7_forgetCodes_4 ⟨by decide, by decide⟩ ?_
  refine hc_Sv (T_J7_fill rfl (by decide)) fJ7_fill_53178 rfl kJ7_fill_53178 lkX7_40 dX7_forgetCodes_5 rfl rfl rfl rfl rfl rfl ?_
  refine ga_ret (v := none) ?_ rfl (by decide) (by decide) ⟨dX7_forgetCodes_8, rfl⟩
  exact ⟨rfl, rfl⟩
theorem T_X7_empty_22 (σ : ga_S) : ga_Mt 2 0 0 mX7_empty [Vr 22] (HP σ) (gis none (stI (stI (stI σ 22 (ga_up (σ.1 22) 2 0)) 23 (fillF (σ.1 23) (60 : Nat) (-1))) 25 (fillF (σ.1 25) (60 : Nat) 0))) ga_nox := by
  refine ga_meth [some (Vr 22)] rfl rfl (by decide +kernel) (Nat.le_of_ble_eq_true rfl) rfl ?_
  refine ga_aload_n dX7_empty_0 rfl ?_
  refine ga_iconst dX7_empty_1 ⟨by decide, by decide⟩ ?_
  refine hg_putI 2 gfX7_9 dX7_empty_2 rfl rfl rfl ?_
  refine ga_aload_n dX7_empty_5 rfl ?_
  refine hg_getR grX7_21 dX7_empty_6 rfl rfl ?_
  refine ga_iconst dX7_empty_9 ⟨by decide, by decide⟩ ?_
  refine hc_Sv (T_J7_fill rfl (by decide)) fJ7_fill_53178 rfl kJ7_fill_53178 lkX7_40 dX7_empty_10 rfl rfl rfl rfl rfl rfl ?_
  refine ga_aload_n dX7_empty_13 rfl ?_
  refine hc_Vv (T_X7_forgetCodes_22 _) fX7_forgetCodes rfl kX7_forgetCodes lkX7_46 dX7_empty_14 rfl rfl rfl rfl rfl rfl rfl rfl ?_
  refine ga_ret (v := none) ?_ rfl (by decide) (by decide) ⟨dX7_empty_17, rfl⟩
  exact ⟨rfl, rfl⟩
theorem T_X7_addCode_22 (x c : Int) (σ : ga_S) (m : Nat) (h1 : 0 ≤ x) (h2 : x < 60) (hm : σ.1 25 x = m) (hm2 : m < 4) : ga_Mt 0 0 0 mX7_addCode [Vr 22, Vi x, Vi c] (HP σ) (gis none (stI (stI σ 24 (insR (x * 4) c m (σ.1 24))) 25 (ga_up (σ.1 25) x (m + 1)))) ga_nox := by
  refine ga_meth [some (Vr 22), some (Vi x), some (Vi c), none, none] rfl rfl (by decide +kernel) (Nat.le_of_ble_eq_true rfl) rfl ?_
  refine ga_iload_n dX7_addCode_0 rfl ?_
  refine ga_aload_n dX7_addCode_1 rfl ?_
  refine hg_getC grX7_18 dX7_addCode_2 rfl rfl ?_
  refine ga_imul dX7_addCode_5 rfl (⟨by omega, by omega⟩) ?_
  refine ga_istore_n (lv2 := [_, _, _, _, _]) dX7_addCode_6 (by decide) rfl rfl ?_
  refine ga_iload_n dX7_addCode_7 rfl ?_
  refine ga_aload_n dX7_addCode_8 rfl ?_
  refine hg_getR grX7_28 dX7_addCode_9 rfl rfl ?_
  refine ga_iload_n dX7_addCode_12 rfl ?_
  refine hg_iald dX7_addCode_13 rfl (by omega) (by omega) ?_
  rw [hm]
  refine ga_iadd dX7_addCode_14 rfl (⟨by omega, by omega⟩) ?_
  refine ga_istore (lv2 := [_, _, _, _, _]) dX7_addCode_15 (by decide) rfl rfl ?_
  have key : ∀ m2 : Nat, m2 < 4 → ∀ τ : ga_S, τ.1 25 x = m → ga_W 0 0 0 0 0 mX7_addCode (gis none (stI (stI τ 24 (insR (x * 4) c m2 (τ.1 24))) 25 (ga_up (τ.1 25) x (m + 1)))) ga_nox 17 [some (Vr 22), some (Vi x), some (Vi c), some (Vi (x * 4)), some (Vi (x * 4 + m2))] [] (HP τ) := by
    intro m2
    induction m2 with
    | zero =>
      intro _ τ ht
      refine ga_iload dX7_addCode_17 rfl ?_
      refine ga_iload_n dX7_addCode_19 rfl ?_
      refine ga_icmp_le (tgt := 58) dX7_addCode_20 rfl (fun c_20 => ?_) (fun c_20 => ?_)
      · refine ga_aload_n dX7_addCode_58 rfl ?_
        refine hg_getR grX7_25 dX7_addCode_59 rfl rfl ?_
        refine ga_iload dX7_addCode_62 rfl ?_
        refine ga_iload_n dX7_addCode_64 rfl ?_
        refine hg_iast dX7_addCode_65 rfl (by omega) (by omega) ?_
        refine ga_aload_n dX7_addCode_66 rfl ?_
        refine hg_getR grX7_28 dX7_addCode_67 rfl rfl ?_
        refine ga_iload_n dX7_addCode_70 rfl ?_
        refine ga_dup2 dX7_addCode_71 rfl rfl ?_
        refine hg_iald dX7_addCode_72 rfl (by omega) (by omega) ?_
        have e : (stI τ 24 (ga_up (τ.1 24) (x * 4 + ((0 : Nat) : Int)) c)).1 25 x = m := ht
        rw [e]
        refine ga_iconst dX7_addCode_73 ⟨by decide, by decide⟩ ?_
        refine ga_iadd dX7_addCode_74 rfl (⟨by omega, by omega⟩) ?_
        refine hg_iast dX7_addCode_75 rfl (by omega) (by omega) ?_
        refine ga_ret (v := none) ?_ rfl (by decide) (by decide) ⟨dX7_addCode_76, rfl⟩
        rw [show x * 4 + ((0 : Nat) : Int) = x * 4 by omega]
        exact ⟨rfl, rfl⟩
      · omega
    | succ m2 ih =>
      intro hm3 τ ht
      have TAIL : ¬ c < τ.1 24 (x * 4 + m2) → ga_W 0 0 0 0 0 mX7_addCode (gis none (stI (stI τ 24 (insR (x * 4) c (m2 + 1) (τ.1 24))) 25 (ga_up (τ.1 25) x (m + 1)))) ga_nox 58 [some (Vr 22), some (Vi x), some (Vi c), some (Vi (x * 4)), some (Vi (x * 4 + ((m2 + 1 : Nat) : Int)))] [] (HP τ) := by
        intro hc
        refine ga_aload_n dX7_addCode_58 rfl ?_
        refine hg_getR grX7_25 dX7_addCode_59 rfl rfl ?_
        refine ga_iload dX7_addCode_62 rfl ?_
        refine ga_iload_n dX7_addCode_64 rfl ?_
        refine hg_iast dX7_addCode_65 rfl (by omega) (by omega) ?_
        refine ga_aload_n dX7_addCode_66 rfl ?_
        refine hg_getR grX7_28 dX7_addCode_67 rfl rfl ?_
        refine ga_iload_n dX7_addCode_70 rfl ?_
        refine ga_dup2 dX7_addCode_71 rfl rfl ?_
        refine hg_iald dX7_addCode_72 rfl (by omega) (by omega) ?_
        have e : (stI τ 24 (ga_up (τ.1 24) (x * 4 + ((m2 + 1 : Nat) : Int)) c)).1 25 x = m := ht
        rw [e]
        refine ga_iconst dX7_addCode_73 ⟨by decide, by decide⟩ ?_
        refine ga_iadd dX7_addCode_74 rfl (⟨by omega, by omega⟩) ?_
        refine hg_iast dX7_addCode_75 rfl (by omega) (by omega) ?_
        refine ga_ret (v := none) ?_ rfl (by decide) (by decide) ⟨dX7_addCode_76, rfl⟩
        rw [insR, if_neg hc, show x * 4 + ((m2 + 1 : Nat) : Int) = x * 4 + m2 + 1 by omega]
        exact ⟨rfl, rfl⟩
      refine ga_iload dX7_addCode_17 rfl ?_
      refine ga_iload_n dX7_addCode_19 rfl ?_
      refine ga_icmp_le (tgt := 58) dX7_addCode_20 rfl (fun c_20 => ?_) (fun c_20 => ?_)
      · omega
      · refine ga_aload_n dX7_addCode_23 rfl ?_
        refine hg_getR grX7_25 dX7_addCode_24 rfl rfl ?_
        refine ga_iload dX7_addCode_27 rfl ?_
        refine ga_iconst dX7_addCode_29 ⟨by decide, by decide⟩ ?_
        refine ga_isub (z := x * 4 + m2) dX7_addCode_30 (by omega) (⟨by omega, by omega⟩) ?_
        refine hg_iald dX7_addCode_31 rfl (by omega) (by omega) ?_
        refine ga_iload_n dX7_addCode_32 rfl ?_
        refine ga_icmp_le (tgt := 58) dX7_addCode_33 rfl (fun c_33 => ?_) (fun c_33 => ?_)
        · exact TAIL (by omega)
        · refine ga_aload_n dX7_addCode_36 rfl ?_
          refine hg_getR grX7_25 dX7_addCode_37 rfl rfl ?_
          refine ga_iload dX7_addCode_40 rfl ?_
          refine ga_aload_n dX7_addCode_42 rfl ?_
          refine hg_getR grX7_25 dX7_addCode_43 rfl rfl ?_
          refine ga_iload dX7_addCode_46 rfl ?_
          refine ga_iconst dX7_addCode_48 ⟨by decide, by decide⟩ ?_
          refine ga_isub (z := x * 4 + m2) dX7_addCode_49 (by omega) (⟨by omega, by omega⟩) ?_
          refine hg_iald dX7_addCode_50 rfl (by omega) (by omega) ?_
          refine hg_iast dX7_addCode_51 rfl (by omega) (by omega) ?_
          refine ga_iinc (z := x * 4 + m2) (lv2 := [_, _, _, _, _]) dX7_addCode_52 (by decide) rfl rfl (by omega) (⟨by omega, by omega⟩) rfl ?_
          refine ga_goto (tgt := 17) dX7_addCode_55 rfl ?_
          have k := ih (by omega) (stI τ 24 (ga_up (τ.1 24) (x * 4 + ((m2 + 1 : Nat) : Int)) (τ.1 24 (x * 4 + m2)))) ht
          rw [stI_st, stI_at] at k
          rw [insR, if_pos (by omega), ← show x * 4 + ((m2 + 1 : Nat) : Int) = x * 4 + m2 + 1 by omega]
          exact k
  exact key m hm2 σ hm
theorem T_X7_enter_22 (x c : Int) (σ : ga_S) (m : Nat) (h1 : 0 ≤ x) (h2 : x < 60) (hm : σ.1 25 x = m) (hm2 : m < 4) : ga_Mt 1 0 0 mX7_enter [Vr 22, Vi x, Vi c] (HP σ) (gis none (stI (stI (stI σ 23 (ga_up (σ.1 23) x 0)) 24 (insR (x * 4) c m (σ.1 24))) 25 (ga_up (σ.1 25) x (m + 1)))) ga_nox := by
  refine ga_meth [some (Vr 22), some (Vi x), some (Vi c)] rfl rfl (by decide +kernel) (Nat.le_of_ble_eq_true rfl) rfl ?_
  refine ga_aload_n dX7_enter_0 rfl ?_
  refine hg_getR grX7_21 dX7_enter_1 rfl rfl ?_
  refine ga_iload_n dX7_enter_4 rfl ?_
  refine ga_iconst dX7_enter_5 ⟨by decide, by decide⟩ ?_
  refine hg_iast dX7_enter_6 rfl (by omega) (by omega) ?_
  refine ga_aload_n dX7_enter_7 rfl ?_
  refine ga_iload_n dX7_enter_8 rfl ?_
  refine ga_iload_n dX7_enter_9 rfl ?_
  refine hc_Vv (T_X7_addCode_22 x c (stI σ 23 (ga_up (σ.1 23) x 0)) m h1 h2 hm hm2) fX7_addCode rfl kX7_addCode lkX7_49 dX7_enter_10 rfl rfl rfl rfl rfl rfl rfl rfl ?_
  refine ga_ret (v := none) ?_ rfl (by decide) (by decide) ⟨dX7_enter_13, rfl⟩
  exact ⟨rfl, rfl⟩
theorem T_X7_haveSameCodes_22 (u v : Int) (σ : ga_S) (m : Nat) (h1 : 0 ≤ u) (h2 : u < 60) (h3 : 0 ≤ v) (h4 : v < 60) (hm : σ.1 25 u = m) (hm2 : m ≤ 4) : ga_Mt 0 0 0 mX7_haveSameCodes [Vr 22, Vi u, Vi v] (HP σ) (gis (some (Vi (tv (smC (σ.1 24) (σ.1 25) 4 u v)))) σ) ga_nox := by
  refine ga_meth [some (Vr 22), some (Vi u), some (Vi v), none] rfl rfl (by decide +kernel) (Nat.le_of_ble_eq_true rfl) rfl ?_
  refine ga_aload_n dX7_haveSameCodes_0 rfl ?_
  refine hg_getR grX7_28 dX7_haveSameCodes_1 rfl rfl ?_
  refine ga_iload_n dX7_haveSameCodes_4 rfl ?_
  refine hg_iald dX7_haveSameCodes_5 rfl (by omega) (by omega) ?_
  refine ga_aload_n dX7_haveSameCodes_6 rfl ?_
  refine hg_getR grX7_28 dX7_haveSameCodes_7 rfl rfl ?_
  refine ga_iload_n dX7_haveSameCodes_10 rfl ?_
  refine hg_iald dX7_haveSameCodes_11 rfl (by omega) (by omega) ?_
  refine ga_icmp_eq (tgt := 17) dX7_haveSameCodes_12 rfl (fun c_12 => ?_) (fun c_12 => ?_)
  rotate_left
  · refine ga_iconst dX7_haveSameCodes_15 ⟨by decide, by decide⟩ ?_
    refine ga_ret (v := some _) ?_ rfl (by decide) (by decide) ⟨dX7_haveSameCodes_16, _, rfl, rfl⟩
    exact ⟨tvf (fun z => c_12 z.1), rfl⟩
  · refine ga_iconst dX7_haveSameCodes_17 ⟨by decide, by decide⟩ ?_
    refine ga_istore_n (lv2 := [_, _, _, _]) dX7_haveSameCodes_18 (by decide) rfl rfl ?_
    refine (ga_loop m (fun i => (∀ j : Nat, j < i → σ.1 24 (u * 4 + j) = σ.1 24 (v * 4 + j)) → ga_W 0 0 0 0 0 mX7_haveSameCodes (gis (some (Vi (tv (smC (σ.1 24) (σ.1 25) 4 u v)))) σ) ga_nox 19 [some (Vr 22), some (Vi u), some (Vi v), some (Vi (i : Int))] [] (HP σ)) ?_ ?_ 0 (Nat.zero_le _) (fun _ q => absurd q (Nat.not_lt_zero _)) : _)
    · intro hall
      refine ga_iload_n dX7_haveSameCodes_19 rfl ?_
      refine ga_aload_n dX7_haveSameCodes_20 rfl ?_
      refine hg_getR grX7_28 dX7_haveSameCodes_21 rfl rfl ?_
      refine ga_iload_n dX7_haveSameCodes_24 rfl ?_
      refine hg_iald dX7_haveSameCodes_25 rfl (by omega) (by omega) ?_
      refine ga_icmp_ge (tgt := 66) dX7_haveSameCodes_26 rfl (fun c_26 => ?_) (fun c_26 => ?_)
      · refine ga_iconst dX7_haveSameCodes_66 ⟨by decide, by decide⟩ ?_
        refine ga_ret (v := some _) ?_ rfl (by decide) (by decide) ⟨dX7_haveSameCodes_67, _, rfl, rfl⟩
        exact ⟨tvt ⟨c_12, fun j hj => hall j (by omega)⟩, rfl⟩
      · omega
    · intro i hi k hall
      refine ga_iload_n dX7_haveSameCodes_19 rfl ?_
      refine ga_aload_n dX7_haveSameCodes_20 rfl ?_
      refine hg_getR grX7_28 dX7_haveSameCodes_21 rfl rfl ?_
      refine ga_iload_n dX7_haveSameCodes_24 rfl ?_
      refine hg_iald dX7_haveSameCodes_25 rfl (by omega) (by omega) ?_
      refine ga_icmp_ge (tgt := 66) dX7_haveSameCodes_26 rfl (fun c_26 => ?_) (fun c_26 => ?_)
      · omega
      · refine ga_aload_n dX7_haveSameCodes_29 rfl ?_
        refine hg_getR grX7_25 dX7_haveSameCodes_30 rfl rfl ?_
        refine ga_iload_n dX7_haveSameCodes_33 rfl ?_
        refine ga_aload_n dX7_haveSameCodes_34 rfl ?_
        refine hg_getC grX7_18 dX7_haveSameCodes_35 rfl rfl ?_
        refine ga_imul dX7_haveSameCodes_38 rfl (⟨by omega, by omega⟩) ?_
        refine ga_iload_n dX7_haveSameCodes_39 rfl ?_
        refine ga_iadd dX7_haveSameCodes_40 rfl (⟨by omega, by omega⟩) ?_
        refine hg_iald dX7_haveSameCodes_41 rfl (by omega) (by omega) ?_
        refine ga_aload_n dX7_haveSameCodes_42 rfl ?_
        refine hg_getR grX7_25 dX7_haveSameCodes_43 rfl rfl ?_
        refine ga_iload_n dX7_haveSameCodes_46 rfl ?_
        refine ga_aload_n dX7_haveSameCodes_47 rfl ?_
        refine hg_getC grX7_18 dX7_haveSameCodes_48 rfl rfl ?_
        refine ga_imul dX7_haveSameCodes_51 rfl (⟨by omega, by omega⟩) ?_
        refine ga_iload_n dX7_haveSameCodes_52 rfl ?_
        refine ga_iadd dX7_haveSameCodes_53 rfl (⟨by omega, by omega⟩) ?_
        refine hg_iald dX7_haveSameCodes_54 rfl (by omega) (by omega) ?_
        refine ga_icmp_eq (tgt := 60) dX7_haveSameCodes_55 rfl (fun c_55 => ?_) (fun c_55 => ?_)
        · refine ga_iinc (z := ((i + 1 : Nat) : Int)) (lv2 := [_, _, _, _]) dX7_haveSameCodes_60 (by decide) rfl rfl (by omega) (⟨by omega, by omega⟩) rfl ?_
          refine ga_goto (tgt := 19) dX7_haveSameCodes_63 rfl ?_
          refine k (fun j hj => ?_)
          rcases Nat.lt_or_ge j i with q | q
          · exact hall j q
          · rw [show j = i by omega]
            exact c_55
        · refine ga_iconst dX7_haveSameCodes_58 ⟨by decide, by decide⟩ ?_
          refine ga_ret (v := some _) ?_ rfl (by decide) (by decide) ⟨dX7_haveSameCodes_59, _, rfl, rfl⟩
          exact ⟨tvf (fun z => c_55 (z.2 i (by omega))), rfl⟩
theorem T_X7_forgetCodes_29 (σ : ga_S) : ga_Mt 1 0 0 mX7_forgetCodes [Vr 29] (HP σ) (gis none (stI σ 32 (fillF (σ.1 32) (80 : Nat) 0))) ga_nox := by
  refine ga_meth [some (Vr 29)] rfl rfl (by decide +kernel) (Nat.le_of_ble_eq_true rfl) rfl ?_
  refine ga_aload_n dX7_forgetCodes_0 rfl ?_
  refine hg_getR grX7_28 dX7_forgetCodes_1 rfl rfl ?_
  refine ga_iconst dX7_forgetCodes_4 ⟨by decide, by decide⟩ ?_
  refine hc_Sv (T_J7_fill rfl (by decide)) fJ7_fill_53178 rfl kJ7_fill_53178 lkX7_40 dX7_forgetCodes_5 rfl rfl rfl rfl rfl rfl ?_
  refine ga_ret (v := none) ?_ rfl (by decide) (by decide) ⟨dX7_forgetCodes_8, rfl⟩
  exact ⟨rfl, rfl⟩
theorem T_X7_empty_29 (σ : ga_S) : ga_Mt 2 0 0 mX7_empty [Vr 29] (HP σ) (gis none (stI (stI (stI σ 29 (ga_up (σ.1 29) 2 0)) 30 (fillF (σ.1 30) (80 : Nat) (-1))) 32 (fillF (σ.1 32) (80 : Nat) 0))) ga_nox := by
  refine ga_meth [some (Vr 29)] rfl rfl (by decide +kernel) (Nat.le_of_ble_eq_true rfl) rfl ?_
  refine ga_aload_n dX7_empty_0 rfl ?_
  refine ga_iconst dX7_empty_1 ⟨by decide, by decide⟩ ?_
  refine hg_putI 2 gfX7_9 dX7_empty_2 rfl rfl rfl ?_
  refine ga_aload_n dX7_empty_5 rfl ?_
  refine hg_getR grX7_21 dX7_empty_6 rfl rfl ?_
  refine ga_iconst dX7_empty_9 ⟨by decide, by decide⟩ ?_
  refine hc_Sv (T_J7_fill rfl (by decide)) fJ7_fill_53178 rfl kJ7_fill_53178 lkX7_40 dX7_empty_10 rfl rfl rfl rfl rfl rfl ?_
  refine ga_aload_n dX7_empty_13 rfl ?_
  refine hc_Vv (T_X7_forgetCodes_29 _) fX7_forgetCodes rfl kX7_forgetCodes lkX7_46 dX7_empty_14 rfl rfl rfl rfl rfl rfl rfl rfl ?_
  refine ga_ret (v := none) ?_ rfl (by decide) (by decide) ⟨dX7_empty_17, rfl⟩
  exact ⟨rfl, rfl⟩
theorem T_X7_addCode_29 (x c : Int) (σ : ga_S) (m : Nat) (h1 : 0 ≤ x) (h2 : x < 80) (hm : σ.1 32 x = m) (hm2 : m < 120) : ga_Mt 0 0 0 mX7_addCode [Vr 29, Vi x, Vi c] (HP σ) (gis none (stI (stI σ 31 (insR (x * 120) c m (σ.1 31))) 32 (ga_up (σ.1 32) x (m + 1)))) ga_nox := by
  refine ga_meth [some (Vr 29), some (Vi x), some (Vi c), none, none] rfl rfl (by decide +kernel) (Nat.le_of_ble_eq_true rfl) rfl ?_
  refine ga_iload_n dX7_addCode_0 rfl ?_
  refine ga_aload_n dX7_addCode_1 rfl ?_
  refine hg_getC grX7_18 dX7_addCode_2 rfl rfl ?_
  refine ga_imul dX7_addCode_5 rfl (⟨by omega, by omega⟩) ?_
  refine ga_istore_n (lv2 := [_, _, _, _, _]) dX7_addCode_6 (by decide) rfl rfl ?_
  refine ga_iload_n dX7_addCode_7 rfl ?_
  refine ga_aload_n dX7_addCode_8 rfl ?_
  refine hg_getR grX7_28 dX7_addCode_9 rfl rfl ?_
  refine ga_iload_n dX7_addCode_12 rfl ?_
  refine hg_iald dX7_addCode_13 rfl (by omega) (by omega) ?_
  rw [hm]
  refine ga_iadd dX7_addCode_14 rfl (⟨by omega, by omega⟩) ?_
  refine ga_istore (lv2 := [_, _, _, _, _]) dX7_addCode_15 (by decide) rfl rfl ?_
  have key : ∀ m2 : Nat, m2 < 120 → ∀ τ : ga_S, τ.1 32 x = m → ga_W 0 0 0 0 0 mX7_addCode (gis none (stI (stI τ 31 (insR (x * 120) c m2 (τ.1 31))) 32 (ga_up (τ.1 32) x (m + 1)))) ga_nox 17 [some (Vr 29), some (Vi x), some (Vi c), some (Vi (x * 120)), some (Vi (x * 120 + m2))] [] (HP τ) := by
    intro m2
    induction m2 with
    | zero =>
      intro _ τ ht
      refine ga_iload dX7_addCode_17 rfl ?_
      refine ga_iload_n dX7_addCode_19 rfl ?_
      refine ga_icmp_le (tgt := 58) dX7_addCode_20 rfl (fun c_20 => ?_) (fun c_20 => ?_)
      · refine ga_aload_n dX7_addCode_58 rfl ?_
        refine hg_getR grX7_25 dX7_addCode_59 rfl rfl ?_
        refine ga_iload dX7_addCode_62 rfl ?_
        refine ga_iload_n dX7_addCode_64 rfl ?_
        refine hg_iast dX7_addCode_65 rfl (by omega) (by omega) ?_
        refine ga_aload_n dX7_addCode_66 rfl ?_
        refine hg_getR grX7_28 dX7_addCode_67 rfl rfl ?_
        refine ga_iload_n dX7_addCode_70 rfl ?_
        refine ga_dup2 dX7_addCode_71 rfl rfl ?_
        refine hg_iald dX7_addCode_72 rfl (by omega) (by omega) ?_
        have e : (stI τ 31 (ga_up (τ.1 31) (x * 120 + ((0 : Nat) : Int)) c)).1 32 x = m := ht
        rw [e]
        refine ga_iconst dX7_addCode_73 ⟨by decide, by decide⟩ ?_
        refine ga_iadd dX7_addCode_74 rfl (⟨by omega, by omega⟩) ?_
        refine hg_iast dX7_addCode_75 rfl (by omega) (by omega) ?_
        refine ga_ret (v := none) ?_ rfl (by decide) (by decide) ⟨dX7_addCode_76, rfl⟩
        rw [show x * 120 + ((0 : Nat) : Int) = x * 120 by omega]
        exact ⟨rfl, rfl⟩
      · omega
    | succ m2 ih =>
      intro hm3 τ ht
      have TAIL : ¬ c < τ.1 31 (x * 120 + m2) → ga_W 0 0 0 0 0 mX7_addCode (gis none (stI (stI τ 31 (insR (x * 120) c (m2 + 1) (τ.1 31))) 32 (ga_up (τ.1 32) x (m + 1)))) ga_nox 58 [some (Vr 29), some (Vi x), some (Vi c), some (Vi (x * 120)), some (Vi (x * 120 + ((m2 + 1 : Nat) : Int)))] [] (HP τ) := by
        intro hc
        refine ga_aload_n dX7_addCode_58 rfl ?_
        refine hg_getR grX7_25 dX7_addCode_59 rfl rfl ?_
        refine ga_iload dX7_addCode_62 rfl ?_
        refine ga_iload_n dX7_addCode_64 rfl ?_
        refine hg_iast dX7_addCode_65 rfl (by omega) (by omega) ?_
        refine ga_aload_n dX7_addCode_66 rfl ?_
        refine hg_getR grX7_28 dX7_addCode_67 rfl rfl ?_
        refine ga_iload_n dX7_addCode_70 rfl ?_
        refine ga_dup2 dX7_addCode_71 rfl rfl ?_
        refine hg_iald dX7_addCode_72 rfl (by omega) (by omega) ?_
        have e : (stI τ 31 (ga_up (τ.1 31) (x * 120 + ((m2 + 1 : Nat) : Int)) c)).1 32 x = m := ht
        rw [e]
        refine ga_iconst dX7_addCode_73 ⟨by decide, by decide⟩ ?_
        refine ga_iadd dX7_addCode_74 rfl (⟨by omega, by omega⟩) ?_
        refine hg_iast dX7_addCode_75 rfl (by omega) (by omega) ?_
        refine ga_ret (v := none) ?_ rfl (by decide) (by decide) ⟨dX7_addCode_76, rfl⟩
        rw [insR, if_neg hc, show x * 120 + ((m2 + 1 : Nat) : Int) = x * 120 + m2 + 1 by omega]
        exact ⟨rfl, rfl⟩
      refine ga_iload dX7_addCode_17 rfl ?_
      refine ga_iload_n dX7_addCode_19 rfl ?_
      refine ga_icmp_le (tgt := 58) dX7_addCode_20 rfl (fun c_20 => ?_) (fun c_20 => ?_)
      · omega
      · refine ga_aload_n dX7_addCode_23 rfl ?_
        refine hg_getR grX7_25 dX7_addCode_24 rfl rfl ?_
        refine ga_iload dX7_addCode_27 rfl ?_
        refine ga_iconst dX7_addCode_29 ⟨by decide, by decide⟩ ?_
        refine ga_isub (z := x * 120 + m2) dX7_addCode_30 (by omega) (⟨by omega, by omega⟩) ?_
        refine hg_iald dX7_addCode_31 rfl (by omega) (by omega) ?_
        refine ga_iload_n dX7_addCode_32 rfl ?_
        refine ga_icmp_le (tgt := 58) dX7_addCode_33 rfl (fun c_33 => ?_) (fun c_33 => ?_)
        · exact TAIL (by omega)
        · refine ga_aload_n dX7_addCode_36 rfl ?_
          refine hg_getR grX7_25 dX7_addCode_37 rfl rfl ?_
          refine ga_iload dX7_addCode_40 rfl ?_
          refine ga_aload_n dX7_addCode_42 rfl ?_
          refine hg_getR grX7_25 dX7_addCode_43 rfl rfl ?_
          refine ga_iload dX7_addCode_46 rfl ?_
          refine ga_iconst dX7_addCode_48 ⟨by decide, by decide⟩ ?_
          refine ga_isub (z := x * 120 + m2) dX7_addCode_49 (by omega) (⟨by omega, by omega⟩) ?_
          refine hg_iald dX7_addCode_50 rfl (by omega) (by omega) ?_
          refine hg_iast dX7_addCode_51 rfl (by omega) (by omega) ?_
          refine ga_iinc (z := x * 120 + m2) (lv2 := [_, _, _, _, _]) dX7_addCode_52 (by decide) rfl rfl (by omega) (⟨by omega, by omega⟩) rfl ?_
          refine ga_goto (tgt := 17) dX7_addCode_55 rfl ?_
          have k := ih (by omega) (stI τ 31 (ga_up (τ.1 31) (x * 120 + ((m2 + 1 : Nat) : Int)) (τ.1 31 (x * 120 + m2)))) ht
          rw [stI_st, stI_at] at k
          rw [insR, if_pos (by omega), ← show x * 120 + ((m2 + 1 : Nat) : Int) = x * 120 + m2 + 1 by omega]
          exact k
  exact key m hm2 σ hm
theorem T_X7_enter_29 (x c : Int) (σ : ga_S) (m : Nat) (h1 : 0 ≤ x) (h2 : x < 80) (hm : σ.1 32 x = m) (hm2 : m < 120) : ga_Mt 1 0 0 mX7_enter [Vr 29, Vi x, Vi c] (HP σ) (gis none (stI (stI (stI σ 30 (ga_up (σ.1 30) x 0)) 31 (insR (x * 120) c m (σ.1 31))) 32 (ga_up (σ.1 32) x (m + 1)))) ga_nox := by
  refine ga_meth [some (Vr 29), some (Vi x), some (Vi c)] rfl rfl (by decide +kernel) (Nat.le_of_ble_eq_true rfl) rfl ?_
  refine ga_aload_n dX7_enter_0 rfl ?_
  refine hg_getR grX7_21 dX7_enter_1 rfl rfl ?_
  refine ga_iload_n dX7_enter_4 rfl ?_
  refine ga_iconst dX7_enter_5 ⟨by decide, by decide⟩ ?_
  refine hg_iast dX7_enter_6 rfl (by omega) (by omega) ?_
  refine ga_aload_n dX7_enter_7 rfl ?_
  refine ga_iload_n dX7_enter_8 rfl ?_
  refine ga_iload_n dX7_enter_9 rfl ?_
  refine hc_Vv (T_X7_addCode_29 x c (stI σ 30 (ga_up (σ.1 30) x 0)) m h1 h2 hm hm2) fX7_addCode rfl kX7_addCode lkX7_49 dX7_enter_10 rfl rfl rfl rfl rfl rfl rfl rfl ?_
  refine ga_ret (v := none) ?_ rfl (by decide) (by decide) ⟨dX7_enter_13, rfl⟩
  exact ⟨rfl, rfl⟩
theorem T_X7_haveSameCodes_29 (u v : Int) (σ : ga_S) (m : Nat) (h1 : 0 ≤ u) (h2 : u < 80) (h3 : 0 ≤ v) (h4 : v < 80) (hm : σ.1 32 u = m) (hm2 : m ≤ 120) : ga_Mt 0 0 0 mX7_haveSameCodes [Vr 29, Vi u, Vi v] (HP σ) (gis (some (Vi (tv (smC (σ.1 31) (σ.1 32) 120 u v)))) σ) ga_nox := by
  refine ga_meth [some (Vr 29), some (Vi u), some (Vi v), none] rfl rfl (by decide +kernel) (Nat.le_of_ble_eq_true rfl) rfl ?_
  refine ga_aload_n dX7_haveSameCodes_0 rfl ?_
  refine hg_getR grX7_28 dX7_haveSameCodes_1 rfl rfl ?_
  refine ga_iload_n dX7_haveSameCodes_4 rfl ?_
  refine hg_iald dX7_haveSameCodes_5 rfl (by omega) (by omega) ?_
  refine ga_aload_n dX7_haveSameCodes_6 rfl ?_
  refine hg_getR grX7_28 dX7_haveSameCodes_7 rfl rfl ?_
  refine ga_iload_n dX7_haveSameCodes_10 rfl ?_
  refine hg_iald dX7_haveSameCodes_11 rfl (by omega) (by omega) ?_
  refine ga_icmp_eq (tgt := 17) dX7_haveSameCodes_12 rfl (fun c_12 => ?_) (fun c_12 => ?_)
  rotate_left
  · refine ga_iconst dX7_haveSameCodes_15 ⟨by decide, by decide⟩ ?_
    refine ga_ret (v := some _) ?_ rfl (by decide) (by decide) ⟨dX7_haveSameCodes_16, _, rfl, rfl⟩
    exact ⟨tvf (fun z => c_12 z.1), rfl⟩
  · refine ga_iconst dX7_haveSameCodes_17 ⟨by decide, by decide⟩ ?_
    refine ga_istore_n (lv2 := [_, _, _, _]) dX7_haveSameCodes_18 (by decide) rfl rfl ?_
    refine (ga_loop m (fun i => (∀ j : Nat, j < i → σ.1 31 (u * 120 + j) = σ.1 31 (v * 120 + j)) → ga_W 0 0 0 0 0 mX7_haveSameCodes (gis (some (Vi (tv (smC (σ.1 31) (σ.1 32) 120 u v)))) σ) ga_nox 19 [some (Vr 29), some (Vi u), some (Vi v), some (Vi (i : Int))] [] (HP σ)) ?_ ?_ 0 (Nat.zero_le _) (fun _ q => absurd q (Nat.not_lt_zero _)) : _)
    · intro hall
      refine ga_iload_n dX7_haveSameCodes_19 rfl ?_
      refine ga_aload_n dX7_haveSameCodes_20 rfl ?_
      refine hg_getR grX7_28 dX7_haveSameCodes_21 rfl rfl ?_
      refine ga_iload_n dX7_haveSameCodes_24 rfl ?_
      refine hg_iald dX7_haveSameCodes_25 rfl (by omega) (by omega) ?_
      refine ga_icmp_ge (tgt := 66) dX7_haveSameCodes_26 rfl (fun c_26 => ?_) (fun c_26 => ?_)
      · refine ga_iconst dX7_haveSameCodes_66 ⟨by decide, by decide⟩ ?_
        refine ga_ret (v := some _) ?_ rfl (by decide) (by decide) ⟨dX7_haveSameCodes_67, _, rfl, rfl⟩
        exact ⟨tvt ⟨c_12, fun j hj => hall j (by omega)⟩, rfl⟩
      · omega
    · intro i hi k hall
      refine ga_iload_n dX7_haveSameCodes_19 rfl ?_
      refine ga_aload_n dX7_haveSameCodes_20 rfl ?_
      refine hg_getR grX7_28 dX7_haveSameCodes_21 rfl rfl ?_
      refine ga_iload_n dX7_haveSameCodes_24 rfl ?_
      refine hg_iald dX7_haveSameCodes_25 rfl (by omega) (by omega) ?_
      refine ga_icmp_ge (tgt := 66) dX7_haveSameCodes_26 rfl (fun c_26 => ?_) (fun c_26 => ?_)
      · omega
      · refine ga_aload_n dX7_haveSameCodes_29 rfl ?_
        refine hg_getR grX7_25 dX7_haveSameCodes_30 rfl rfl ?_
        refine ga_iload_n dX7_haveSameCodes_33 rfl ?_
        refine ga_aload_n dX7_haveSameCodes_34 rfl ?_
        refine hg_getC grX7_18 dX7_haveSameCodes_35 rfl rfl ?_
        refine ga_imul dX7_haveSameCodes_38 rfl (⟨by omega, by omega⟩) ?_
        refine ga_iload_n dX7_haveSameCodes_39 rfl ?_
        refine ga_iadd dX7_haveSameCodes_40 rfl (⟨by omega, by omega⟩) ?_
        refine hg_iald dX7_haveSameCodes_41 rfl (by omega) (by omega) ?_
        refine ga_aload_n dX7_haveSameCodes_42 rfl ?_
        refine hg_getR grX7_25 dX7_haveSameCodes_43 rfl rfl ?_
        refine ga_iload_n dX7_haveSameCodes_46 rfl ?_
        refine ga_aload_n dX7_haveSameCodes_47 rfl ?_
        refine hg_getC grX7_18 dX7_haveSameCodes_48 rfl rfl ?_
        refine ga_imul dX7_haveSameCodes_51 rfl (⟨by omega, by omega⟩) ?_
        refine ga_iload_n dX7_haveSameCodes_52 rfl ?_
        refine ga_iadd dX7_haveSameCodes_53 rfl (⟨by omega, by omega⟩) ?_
        refine hg_iald dX7_haveSameCodes_54 rfl (by omega) (by omega) ?_
        refine ga_icmp_eq (tgt := 60) dX7_haveSameCodes_55 rfl (fun c_55 => ?_) (fun c_55 => ?_)
        · refine ga_iinc (z := ((i + 1 : Nat) : Int)) (lv2 := [_, _, _, _]) dX7_haveSameCodes_60 (by decide) rfl rfl (by omega) (⟨by omega, by omega⟩) rfl ?_
          refine ga_goto (tgt := 19) dX7_haveSameCodes_63 rfl ?_
          refine k (fun j hj => ?_)
          rcases Nat.lt_or_ge j i with q | q
          · exact hall j q
          · rw [show j = i by omega]
            exact c_55
        · refine ga_iconst dX7_haveSameCodes_58 ⟨by decide, by decide⟩ ?_
          refine ga_ret (v := some _) ?_ rfl (by decide) (by decide) ⟨dX7_haveSameCodes_59, _, rfl, rfl⟩
          exact ⟨tvf (fun z => c_55 (z.2 i (by omega))), rfl⟩
