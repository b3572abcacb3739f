-- Search: find whole, and keep
theorem T_X8_find (σ β : ga_S) (N D M E P n : Nat) (R : Int → Int) (lim r : Int) (c2 : Int → Int) (hd : dsg σ β N D M E) (hh : agH (σ.2 18) β) (hf : fpB β) (hn : numb 60 (bL β) (σ.1 23) P R) (h1 : nmd β) (h2 : unq β) (h3 : utot β) (l1 : 0 ≤ lim) (l2 : lim ≤ 2000) (hs : Srch β R lim (lnC β 30) n 0 (fun _ => -1) 0 r c2) : ga_Mt 4 0 0 mX8_find [Vr 38, Vr 1, Vr 21, Vi lim] (HP σ) (FPo β E (lnC β 30) r c2 σ) ga_nox := by
  have a := hd.1
  have b := hd.2.1
  have hn2 := Srch_n hs (by decide) l1
  have lb := lnC_b β 30
  refine ga_meth [some (Vr 38), some (Vr 1), some (Vr 21), some (Vi lim), none, none, none, none] rfl rfl (by decide +kernel) (Nat.le_of_ble_eq_true rfl) rfl ?_
  refine ga_aload_n dX8_find_0 rfl ?_
  refine ga_aload_n dX8_find_1 rfl ?_
  refine hc_VP (T_X8_begin σ β N D M E hd) fX8_begin rfl kX8_begin lkX8_51 dX8_find_2 rfl rfl rfl rfl rfl rfl rfl rfl ?_
  rintro v h ⟨τ, x1, x2, x3, x4, x5, x6, x7, x8, x9⟩
  rw [x8, x9]
  refine ga_iconst dX8_find_5 ⟨by decide, by decide⟩ ?_
  refine ga_istore (lv2 := [_, _, _, _, _, _, _, _]) dX8_find_6 (by decide) rfl rfl ?_
  refine ga_iconst dX8_find_8 ⟨by decide, by decide⟩ ?_
  refine ga_istore (lv2 := [_, _, _, _, _, _, _, _]) dX8_find_9 (by decide) rfl rfl ?_
  refine ga_iconst dX8_find_11 ⟨by decide, by decide⟩ ?_
  refine ga_istore (lv2 := [_, _, _, _, _, _, _, _]) dX8_find_12 (by decide) rfl rfl ?_
  have F : FI β E (lnC β 30) 0 (fun _ => -1) σ τ := ⟨exc_m x1 (by decide), x2, x3, x4, fun _ _ _ => rfl, fun i i1 i2 => by omega, fun i j i1 i2 => by omega, fun e e1 e2 => ⟨fun _ i i1 i2 => by omega, fun _ => x5 e e1 e2⟩, fun _ => ⟨by decide, by show (-1 : Int) + 1 ≤ E; omega⟩, fun _ => ⟨SR_0 a.2.1 a.1.2.1 b.2.1 b.1.2.1 a.2.2.2.1 b.2.2.2.1 h1 x6 x7 _, EV_0 h1 h2 h3 _⟩⟩
  exact W_find hd hh hf hn rfl n 0 (fun _ => -1) 0 0 τ none hs F (by decide) (by omega) (by decide) (by omega) (by decide) (by omega)
/-- the nets of the first side with the least one of their sort that is left -/
noncomputable def gN (β : ga_S) (ch : Int → Int) (L : Int) : Nat → Int → Int
  | 0 => fun _ => -1
  | n + 1 => ga_up (gN β ch L n) (n : Int) (tif (bU β n) (lstF (fun m => bU β (40 + m) ∧ (∀ i : Int, 0 ≤ i → i < n → gN β ch L n i ≠ m) ∧ SE β ch L n (40 + m)) 40) (-1))
theorem gN_s (β : ga_S) (ch : Int → Int) (L : Int) (n : Nat) : gN β ch L (n + 1) = ga_up (gN β ch L n) (n : Int) (tif (bU β n) (lstF (fun m => bU β (40 + m) ∧ (∀ i : Int, 0 ≤ i → i < n → gN β ch L n i ≠ m) ∧ SE β ch L n (40 + m)) 40) (-1)) := rfl
theorem gN_hi (β : ga_S) (ch : Int → Int) (L : Int) : ∀ (n : Nat) (i : Int), n ≤ i → gN β ch L n i = -1
  | 0, _, _ => rfl
  | n + 1, i, h => by rw [gN_s, ga_up_ne _ _ (by omega)]; exact gN_hi β ch L n i (by omega)
theorem gN_rng (β : ga_S) (ch : Int → Int) (L : Int) : ∀ (n : Nat) (i : Int), gN β ch L n i = -1 ∨ (0 ≤ gN β ch L n i ∧ gN β ch L n i < 40)
  | 0, _ => Or.inl rfl
  | n + 1, i => by
    rw [gN_s]
    by_cases q : i = n
    · rw [q, ga_up_at]
      by_cases u : bU β n
      · rw [tif1 u]
        rcases lstF_is (fun m => bU β (40 + m) ∧ (∀ i : Int, 0 ≤ i → i < n → gN β ch L n i ≠ m) ∧ SE β ch L n (40 + m)) 40 with ⟨a, _⟩ | ⟨a, b, _⟩
        · exact Or.inl a
        · exact Or.inr ⟨a, b⟩
      · rw [tif0 u]; exact Or.inl rfl
    · rw [ga_up_ne _ _ q]; exact gN_rng β ch L n i
theorem T_X5_pairDevices (a b : Int) (σ : ga_S) (h1 : 0 ≤ a) (h2 : a < 30) (h3 : 0 ≤ b) (h4 : b < 30) : ga_Mt 0 0 0 mX5_pairDevices [Vr 55, Vi a, Vi b] (HP σ) (gis none (stI (stI σ 56 (ga_up (σ.1 56) a b)) 57 (ga_up (σ.1 57) b a))) ga_nox := by
  refine ga_meth [some (Vr 55), some (Vi a), some (Vi b)] rfl rfl (by decide +kernel) (Nat.le_of_ble_eq_true rfl) rfl ?_
  refine ga_aload_n dX5_pairDevices_0 rfl ?_
  refine hg_getR grX5_15 dX5_pairDevices_1 rfl rfl ?_
  refine ga_iload_n dX5_pairDevices_4 rfl ?_
  refine ga_iload_n dX5_pairDevices_5 rfl ?_
  refine hg_iast dX5_pairDevices_6 rfl (by omega) (by omega) ?_
  refine ga_aload_n dX5_pairDevices_7 rfl ?_
  refine hg_getR grX5_19 dX5_pairDevices_8 rfl rfl ?_
  refine ga_iload_n dX5_pairDevices_11 rfl ?_
  refine ga_iload_n dX5_pairDevices_12 rfl ?_
  refine hg_iast dX5_pairDevices_13 rfl (by omega) (by omega) ?_
  refine ga_ret (v := none) ?_ rfl (by decide) (by decide) ⟨dX5_pairDevices_14, rfl⟩
  exact ⟨rfl, rfl⟩
theorem T_X5_pairNets (a b : Int) (σ : ga_S) (h1 : 0 ≤ a) (h2 : a < 40) (h3 : 0 ≤ b) (h4 : b < 40) : ga_Mt 0 0 0 mX5_pairNets [Vr 55, Vi a, Vi b] (HP σ) (gis none (stI (stI σ 58 (ga_up (σ.1 58) a b)) 59 (ga_up (σ.1 59) b a))) ga_nox := by
  refine ga_meth [some (Vr 55), some (Vi a), some (Vi b)] rfl rfl (by decide +kernel) (Nat.le_of_ble_eq_true rfl) rfl ?_
  refine ga_aload_n dX5_pairNets_0 rfl ?_
  refine hg_getR grX5_22 dX5_pairNets_1 rfl rfl ?_
  refine ga_iload_n dX5_pairNets_4 rfl ?_
  refine ga_iload_n dX5_pairNets_5 rfl ?_
  refine hg_iast dX5_pairNets_6 rfl (by omega) (by omega) ?_
  refine ga_aload_n dX5_pairNets_7 rfl ?_
  refine hg_getR grX5_25 dX5_pairNets_8 rfl rfl ?_
  refine ga_iload_n dX5_pairNets_11 rfl ?_
  refine ga_iload_n dX5_pairNets_12 rfl ?_
  refine hg_iast dX5_pairNets_13 rfl (by omega) (by omega) ?_
  refine ga_ret (v := none) ?_ rfl (by decide) (by decide) ⟨dX5_pairNets_14, rfl⟩
  exact ⟨rfl, rfl⟩
theorem T_X5_forget (σ : ga_S) : ga_Mt 1 0 0 mX5_forget [Vr 55] (HP σ) (gis none (stI (stI (stI (stI (stI σ 55 (ga_up (σ.1 55) 0 0)) 56 (fillF (σ.1 56) (30 : Nat) (-1))) 57 (fillF (σ.1 57) (30 : Nat) (-1))) 58 (fillF (σ.1 58) (40 : Nat) (-1))) 59 (fillF (σ.1 59) (40 : Nat) (-1)))) ga_nox := by
  refine ga_meth [some (Vr 55)] rfl rfl (by decide +kernel) (Nat.le_of_ble_eq_true rfl) rfl ?_
  refine ga_aload_n dX5_forget_0 rfl ?_
  refine ga_iconst dX5_forget_1 ⟨by decide, by decide⟩ ?_
  refine hg_putZ 0 gfX5_9 dX5_forget_2 rfl rfl (by omega) rfl ?_
  refine ga_aload_n dX5_forget_5 rfl ?_
  refine hg_getR grX5_15 dX5_forget_6 rfl rfl ?_
  refine ga_iconst dX5_forget_9 ⟨by decide, by decide⟩ ?_
  refine hc_Sv (T_J7_fill rfl (by decide)) fJ7_fill_53178 rfl kJ7_fill_53178 lkX5_31 dX5_forget_10 rfl rfl rfl rfl rfl rfl ?_
  refine ga_aload_n dX5_forget_13 rfl ?_
  refine hg_getR grX5_19 dX5_forget_14 rfl rfl ?_
  refine ga_iconst dX5_forget_17 ⟨by decide, by decide⟩ ?_
  refine hc_Sv (T_J7_fill rfl (by decide)) fJ7_fill_53178 rfl kJ7_fill_53178 lkX5_31 dX5_forget_18 rfl rfl rfl rfl rfl rfl ?_
  refine ga_aload_n dX5_forget_21 rfl ?_
  refine hg_getR grX5_22 dX5_forget_22 rfl rfl ?_
  refine ga_iconst dX5_forget_25 ⟨by decide, by decide⟩ ?_
  refine hc_Sv (T_J7_fill rfl (by decide)) fJ7_fill_53178 rfl kJ7_fill_53178 lkX5_31 dX5_forget_26 rfl rfl rfl rfl rfl rfl ?_
  refine ga_aload_n dX5_forget_29 rfl ?_
  refine hg_getR grX5_25 dX5_forget_30 rfl rfl ?_
  refine ga_iconst dX5_forget_33 ⟨by decide, by decide⟩ ?_
  refine hc_Sv (T_J7_fill rfl (by decide)) fJ7_fill_53178 rfl kJ7_fill_53178 lkX5_31 dX5_forget_34 rfl rfl rfl rfl rfl rfl ?_
  refine ga_ret (v := none) ?_ rfl (by decide) (by decide) ⟨dX5_forget_37, rfl⟩
  exact ⟨rfl, rfl⟩
theorem T_X8_keepNet (n : Int) (σ : ga_S) (M : Nat) (h1 : 0 ≤ n) (h2 : n < 40) (hM : σ.1 9 0 = M) (hM2 : M ≤ 40) : ga_Mt 1 0 0 mX8_keepNet [Vr 38, Vr 9, Vr 55, Vi n] (HP σ) (fun v h => v = none ∧ ((lstF (fun m => (σ.1 11 m ≠ 0 ∧ σ.1 59 m = -1) ∧ σ.1 47 m = σ.1 43 n) M = -1 ∧ h = HP σ) ∨ (0 ≤ lstF (fun m => (σ.1 11 m ≠ 0 ∧ σ.1 59 m = -1) ∧ σ.1 47 m = σ.1 43 n) M ∧ h = HP (stI (stI σ 58 (ga_up (σ.1 58) n (lstF (fun m => (σ.1 11 m ≠ 0 ∧ σ.1 59 m = -1) ∧ σ.1 47 m = σ.1 43 n) M))) 59 (ga_up (σ.1 59) (lstF (fun m => (σ.1 11 m ≠ 0 ∧ σ.1 59 m = -1) ∧ σ.1 47 m = σ.1 43 n) M) n))))) ga_nox := by
  refine ga_meth [some (Vr 38), some (Vr 9), some (Vr 55), some (Vi n), none, none] rfl rfl (by decide +kernel) (Nat.le_of_ble_eq_true rfl) rfl ?_
  refine ga_iconst dX8_keepNet_0 ⟨by decide, by decide⟩ ?_
  refine ga_istore (lv2 := [_, _, _, _, _, _]) dX8_keepNet_1 (by decide) rfl rfl ?_
  refine (ga_loop M (fun i => ∀ z, (∀ m : Int, 0 ≤ m → m < i → ¬ ((σ.1 11 m ≠ 0 ∧ σ.1 59 m = -1) ∧ σ.1 47 m = σ.1 43 n)) → ga_W 1 0 0 0 0 mX8_keepNet (fun v h => v = none ∧ ((lstF (fun m => (σ.1 11 m ≠ 0 ∧ σ.1 59 m = -1) ∧ σ.1 47 m = σ.1 43 n) M = -1 ∧ h = HP σ) ∨ (0 ≤ lstF (fun m => (σ.1 11 m ≠ 0 ∧ σ.1 59 m = -1) ∧ σ.1 47 m = σ.1 43 n) M ∧ h = HP (stI (stI σ 58 (ga_up (σ.1 58) n (lstF (fun m => (σ.1 11 m ≠ 0 ∧ σ.1 59 m = -1) ∧ σ.1 47 m = σ.1 43 n) M))) 59 (ga_up (σ.1 59) (lstF (fun m => (σ.1 11 m ≠ 0 ∧ σ.1 59 m = -1) ∧ σ.1 47 m = σ.1 43 n) M) n))))) ga_nox 3 [some (Vr 38), some (Vr 9), some (Vr 55), some (Vi n), some (Vi (i : Int)), z] [] (HP σ)) ?_ ?_ 0 (Nat.zero_le _) none (fun m a b => by omega) : _)
  · intro z hno
    refine ga_iload dX8_keepNet_3 rfl ?_
    refine ga_aload_n dX8_keepNet_5 rfl ?_
    refine hg_getI 0 grX8_83 dX8_keepNet_6 rfl rfl rfl ?_
    refine ga_icmp_ge (tgt := 81) dX8_keepNet_9 rfl (fun c_9 => ?_) (fun c_9 => ?_)
    · refine ga_ret (v := none) ?_ rfl (by decide) (by decide) ⟨dX8_keepNet_81, rfl⟩
      refine ⟨rfl, Or.inl ⟨?_, rfl⟩⟩
      rcases lstF_is (fun m => (σ.1 11 m ≠ 0 ∧ σ.1 59 m = -1) ∧ σ.1 47 m = σ.1 43 n) M with ⟨q, _⟩ | ⟨q1, q2, q3, _⟩
      · exact q
      · exact absurd q3 (hno _ q1 q2)
    · omega
  · intro i hi k z hno
    have GO : ¬ ((σ.1 11 (i : Int) ≠ 0 ∧ σ.1 59 (i : Int) = -1) ∧ σ.1 47 (i : Int) = σ.1 43 n) → ∀ z, ga_W 1 0 0 0 0 mX8_keepNet (fun v h => v = none ∧ ((lstF (fun m => (σ.1 11 m ≠ 0 ∧ σ.1 59 m = -1) ∧ σ.1 47 m = σ.1 43 n) M = -1 ∧ h = HP σ) ∨ (0 ≤ lstF (fun m => (σ.1 11 m ≠ 0 ∧ σ.1 59 m = -1) ∧ σ.1 47 m = σ.1 43 n) M ∧ h = HP (stI (stI σ 58 (ga_up (σ.1 58) n (lstF (fun m => (σ.1 11 m ≠ 0 ∧ σ.1 59 m = -1) ∧ σ.1 47 m = σ.1 43 n) M))) 59 (ga_up (σ.1 59) (lstF (fun m => (σ.1 11 m ≠ 0 ∧ σ.1 59 m = -1) ∧ σ.1 47 m = σ.1 43 n) M) n))))) ga_nox 75 [some (Vr 38), some (Vr 9), some (Vr 55), some (Vi n), some (Vi (i : Int)), z] [] (HP σ) := by
      intro hn z
      refine ga_iinc (z := ((i + 1 : Nat) : Int)) (lv2 := [_, _, _, _, _, _]) dX8_keepNet_75 (by decide) rfl rfl (by omega) (⟨by omega, by omega⟩) rfl ?_
      refine ga_goto (tgt := 3) dX8_keepNet_78 rfl ?_
      refine k _ (fun m a b => ?_)
      rcases Int.lt_or_le m i with q | q
      · exact hno m a q
      · rw [show m = i by omega]; exact hn
    refine ga_iload dX8_keepNet_3 rfl ?_
    refine ga_aload_n dX8_keepNet_5 rfl ?_
    refine hg_getI 0 grX8_83 dX8_keepNet_6 rfl rfl rfl ?_
    refine ga_icmp_ge (tgt := 81) dX8_keepNet_9 rfl (fun c_9 => ?_) (fun c_9 => ?_)
    · omega
    · refine ga_aload_n dX8_keepNet_12 rfl ?_
      refine hg_getR grX8_88 dX8_keepNet_13 rfl rfl ?_
      refine ga_iload dX8_keepNet_16 rfl ?_
      refine hg_zald dX8_keepNet_18 rfl (by omega) (by omega) ?_
      refine ga_if_eq (tgt := 37) dX8_keepNet_19 rfl (fun c_19 => ?_) (fun c_19 => ?_)
      · refine ga_iconst dX8_keepNet_37 ⟨by decide, by decide⟩ ?_
        refine ga_istore (lv2 := [_, _, _, _, _, _]) dX8_keepNet_38 (by decide) rfl rfl ?_
        refine ga_iload dX8_keepNet_40 rfl ?_
        refine ga_if_eq (tgt := 75) dX8_keepNet_42 rfl (fun c_42 => ?_) (fun c_42 => ?_)
        · exact GO (fun w => w.1.1 c_19) _
        · exact absurd rfl c_42
      · refine ga_aload_n dX8_keepNet_22 rfl ?_
        refine hg_getR grX8_98 dX8_keepNet_23 rfl rfl ?_
        refine ga_iload dX8_keepNet_26 rfl ?_
        refine hg_iald dX8_keepNet_28 rfl (by omega) (by omega) ?_
        refine ga_iconst dX8_keepNet_29 ⟨by decide, by decide⟩ ?_
        refine ga_icmp_ne (tgt := 37) dX8_keepNet_30 rfl (fun c_30 => ?_) (fun c_30 => ?_)
        · refine ga_iconst dX8_keepNet_37 ⟨by decide, by decide⟩ ?_
          refine ga_istore (lv2 := [_, _, _, _, _, _]) dX8_keepNet_38 (by decide) rfl rfl ?_
          refine ga_iload dX8_keepNet_40 rfl ?_
          refine ga_if_eq (tgt := 75) dX8_keepNet_42 rfl (fun c_42 => ?_) (fun c_42 => ?_)
          · exact GO (fun w => c_30 w.1.2) _
          · exact absurd rfl c_42
        · refine ga_iconst dX8_keepNet_33 ⟨by decide, by decide⟩ ?_
          refine ga_goto (tgt := 38) dX8_keepNet_34 rfl ?_
          refine ga_istore (lv2 := [_, _, _, _, _, _]) dX8_keepNet_38 (by decide) rfl rfl ?_
          refine ga_iload dX8_keepNet_40 rfl ?_
          refine ga_if_eq (tgt := 75) dX8_keepNet_42 rfl (fun c_42 => ?_) (fun c_42 => ?_)
          · exact absurd c_42 (by decide)
          · refine ga_aload_n dX8_keepNet_45 rfl ?_
            refine hg_getR grX8_33 dX8_keepNet_46 rfl rfl ?_
            refine hg_getR grX8_101 dX8_keepNet_49 rfl rfl ?_
            refine ga_iload dX8_keepNet_52 rfl ?_
            refine hg_iald dX8_keepNet_54 rfl (by omega) (by omega) ?_
            refine ga_aload_n dX8_keepNet_55 rfl ?_
            refine hg_getR grX8_29 dX8_keepNet_56 rfl rfl ?_
            refine hg_getR grX8_101 dX8_keepNet_59 rfl rfl ?_
            refine ga_iload_n dX8_keepNet_62 rfl ?_
            refine hg_iald dX8_keepNet_63 rfl (by omega) (by omega) ?_
            refine ga_icmp_ne (tgt := 75) dX8_keepNet_64 rfl (fun c_64 => ?_) (fun c_64 => ?_)
            · exact GO (fun w => c_64 w.2) _
            · have e : lstF (fun m => (σ.1 11 m ≠ 0 ∧ σ.1 59 m = -1) ∧ σ.1 47 m = σ.1 43 n) M = i := lstF_one (by omega) (by omega) ⟨⟨c_19, c_30⟩, c_64⟩ hno
              rw [e]
              refine ga_aload_n dX8_keepNet_67 rfl ?_
              refine ga_iload_n dX8_keepNet_68 rfl ?_
              refine ga_iload dX8_keepNet_69 rfl ?_
              refine hc_Vv (T_X5_pairNets n i σ h1 h2 (by omega) (by omega)) fX5_pairNets rfl kX5_pairNets lkX8_104 dX8_keepNet_71 rfl rfl rfl rfl rfl rfl rfl rfl ?_
              refine ga_ret (v := none) ?_ rfl (by decide) (by decide) ⟨dX8_keepNet_74, rfl⟩
              exact ⟨rfl, Or.inr ⟨by omega, rfl⟩⟩
