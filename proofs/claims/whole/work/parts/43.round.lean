-- Classes: a round
theorem W_makeRound_2 {P : ga_Po} (σ β : ga_S) (N D M E : Nat) (hd : dsg σ β N D M E) (r23 : ∀ x : Int, 0 ≤ x → x < 60 → -1 ≤ σ.1 23 x ∧ σ.1 23 x < 60) (r30 : ∀ x : Int, 0 ≤ x → x < 80 → -1 ≤ σ.1 30 x ∧ σ.1 30 x < 80) (y3 y4 : Option ga_V) (τ0 : ga_S) (hx0 : exc [24, 25, 31, 32] σ τ0) (hD : DR β (σ.1 30) (τ0.1 24) (τ0.1 25) (120 * 0)) (hN : NR β (σ.1 23) (τ0.1 31) (τ0.1 32) (120 * 0))
    (K : ∀ τ y3 y4, exc [24, 25, 31, 32] σ τ → DR β (σ.1 30) (τ.1 24) (τ.1 25) (120 * (0 + 1)) → NR β (σ.1 23) (τ.1 31) (τ.1 32) (120 * (0 + 1)) → ga_W 3 0 0 0 0 mX0_makeRound P ga_nox 16 [some (Vr 21), some (Vr 1), some (Vi 1), y3, y4] [] (HP τ)) : ga_W 3 0 0 0 0 mX0_makeRound P ga_nox 16 [some (Vr 21), some (Vr 1), some (Vi 0), y3, y4] [] (HP τ0) := by
  have hall := dsg_all hd
  have ha : agS_2 σ β N D := hd.1
  have ha2 := ha
  obtain ⟨⟨hcN, hN2, hcD, hD2, hkd, hsz, hpin⟩, hbN, hbD, hport, hdev, hpb⟩ := ha2
  refine ga_iload_n dX0_makeRound_16 rfl ?_
  refine ga_iconst dX0_makeRound_17 ⟨by decide, by decide⟩ ?_
  refine ga_icmp_ge (tgt := 73) dX0_makeRound_18 rfl (fun c_18 => ?_) (fun c_18 => ?_)
  · omega
  · refine ga_aload_n dX0_makeRound_21 rfl ?_
    refine ga_iload_n dX0_makeRound_22 rfl ?_
    refine hc_V (T_X1_sideOf0 τ0) fX1_sideOf rfl kX1_sideOf lkX0_73 dX0_makeRound_23 rfl rfl rfl rfl rfl rfl rfl rfl ?_
    refine ga_astore_n (lv2 := [_, _, _, _, _]) dX0_makeRound_26 (by decide) rfl rfl ?_
    refine ga_iconst dX0_makeRound_27 ⟨by decide, by decide⟩ ?_
    refine ga_istore (lv2 := [_, _, _, _, _]) dX0_makeRound_28 (by decide) rfl rfl ?_
    refine (ga_loop D (fun d => ∀ τ, exc [24, 25, 31, 32] σ τ → DR β (σ.1 30) (τ.1 24) (τ.1 25) (120 * 0 + 4 * d) → NR β (σ.1 23) (τ.1 31) (τ.1 32) (120 * 0 + 4 * d) → ga_W 3 0 0 0 0 mX0_makeRound P ga_nox 30 [some (Vr 21), some (Vr 1), some (Vi 0), some (Vr 2), some (Vi (d : Int))] [] (HP τ)) ?_ ?_ 0 (Nat.zero_le _) τ0 hx0 hD hN : _)
    · intro τ hx h1 h2
      have h3 := DN_skip h1 h2 (120 - 4 * D) (fun z a b => by
        have := agF_dead ha (d := (z : Int) / 4 - 30 * 0) (by omega) (by omega)
        rw [show 30 * 0 + ((z : Int) / 4 - 30 * 0) = (z : Int) / 4 by omega] at this
        exact this)
      rw [show 120 * 0 + 4 * D + (120 - 4 * D) = 120 * (0 + 1) by omega] at h3
      have hc3 : τ.1 2 3 = D := by rw [hx.1 2 (by decide)]; exact hcD
      refine ga_iload dX0_makeRound_30 rfl ?_
      refine ga_aload_n dX0_makeRound_32 rfl ?_
      refine hg_getI 3 grX0_58 dX0_makeRound_33 rfl rfl rfl ?_
      refine ga_icmp_ge (tgt := 67) dX0_makeRound_36 rfl (fun c_36 => ?_) (fun c_36 => ?_)
      · refine ga_iinc (z := 1) (lv2 := [_, _, _, _, _]) dX0_makeRound_67 (by decide) rfl rfl (by omega) (⟨by omega, by omega⟩) rfl ?_
        refine ga_goto (tgt := 16) dX0_makeRound_70 rfl ?_
        exact K τ _ _ hx h3.1 h3.2
      · omega
    · intro d hdd ih τ hx h1 h2
      have hc3 : τ.1 2 3 = D := by rw [hx.1 2 (by decide)]; exact hcD
      have hl := agF_live ha (d := d) (by omega) (by omega)
      have hdt := dsg_exc hx (by decide) hd
      refine ga_iload dX0_makeRound_30 rfl ?_
      refine ga_aload_n dX0_makeRound_32 rfl ?_
      refine hg_getI 3 grX0_58 dX0_makeRound_33 rfl rfl rfl ?_
      refine ga_icmp_ge (tgt := 67) dX0_makeRound_36 rfl (fun c_36 => ?_) (fun c_36 => ?_)
      · omega
      · refine ga_aload_n dX0_makeRound_39 rfl ?_
        refine hg_getR grX0_63 dX0_makeRound_40 rfl rfl ?_
        refine ga_iload dX0_makeRound_43 rfl ?_
        refine hg_zald dX0_makeRound_45 rfl (by omega) (by omega) ?_
        refine ga_if_ne (tgt := 61) dX0_makeRound_46 rfl (fun c_46 => ?_) (fun c_46 => ?_)
        · rw [hx.1 7 (by decide)] at c_46
          have h3 := DN_skip h1 h2 4 (fun z a b => by
            rw [show ((z : Int) / 4) = 30 * 0 + (d : Int) by omega]
            exact fun z => c_46 (hl.mp z))
          refine ga_iinc (z := ((d + 1 : Nat) : Int)) (lv2 := [_, _, _, _, _]) dX0_makeRound_61 (by decide) rfl rfl (by omega) (⟨by omega, by omega⟩) rfl ?_
          refine ga_goto (tgt := 30) dX0_makeRound_64 rfl ?_
          exact ih τ hx h3.1 h3.2
        · rw [hx.1 7 (by decide)] at c_46
          have e30 := hx.1 30 (by decide)
          have e23 := hx.1 23 (by decide)
          refine ga_aload_n dX0_makeRound_49 rfl ?_
          refine ga_aload_n dX0_makeRound_50 rfl ?_
          refine hg_getR grX0_99 dX0_makeRound_51 rfl rfl ?_
          refine ga_aload_n dX0_makeRound_54 rfl ?_
          refine ga_iload_n dX0_makeRound_55 rfl ?_
          refine ga_iload dX0_makeRound_56 rfl ?_
          refine hc_VP (T_X0_addCodes_2 d τ β N D hdd hdt.1 hdt.2.2.1 hall.1 (hl.mpr c_46) (by rw [e30]; exact h1) (by rw [e23]; exact h2) (by rw [e23]; exact r23) (by rw [e30]; exact r30)) fX0_addCodes rfl kX0_addCodes lkX0_103 dX0_makeRound_58 rfl rfl rfl rfl rfl rfl rfl rfl ?_
          rintro v h ⟨τ2, x1, x2, x3, x4, x5⟩
          rw [x4, x5]
          rw [e30] at x2
          rw [e23] at x3
          refine ga_iinc (z := ((d + 1 : Nat) : Int)) (lv2 := [_, _, _, _, _]) dX0_makeRound_61 (by decide) rfl rfl (by omega) (⟨by omega, by omega⟩) rfl ?_
          refine ga_goto (tgt := 30) dX0_makeRound_64 rfl ?_
          exact ih τ2 (exc_tr hx x1 (fun _ z => z) (fun _ z => z)) x2 x3
theorem W_makeRound_9 {P : ga_Po} (σ β : ga_S) (N D M E : Nat) (hd : dsg σ β N D M E) (r23 : ∀ x : Int, 0 ≤ x → x < 60 → -1 ≤ σ.1 23 x ∧ σ.1 23 x < 60) (r30 : ∀ x : Int, 0 ≤ x → x < 80 → -1 ≤ σ.1 30 x ∧ σ.1 30 x < 80) (y3 y4 : Option ga_V) (τ0 : ga_S) (hx0 : exc [24, 25, 31, 32] σ τ0) (hD : DR β (σ.1 30) (τ0.1 24) (τ0.1 25) (120 * 1)) (hN : NR β (σ.1 23) (τ0.1 31) (τ0.1 32) (120 * 1))
    (K : ∀ τ y3 y4, exc [24, 25, 31, 32] σ τ → DR β (σ.1 30) (τ.1 24) (τ.1 25) (120 * (1 + 1)) → NR β (σ.1 23) (τ.1 31) (τ.1 32) (120 * (1 + 1)) → ga_W 3 0 0 0 0 mX0_makeRound P ga_nox 16 [some (Vr 21), some (Vr 1), some (Vi 2), y3, y4] [] (HP τ)) : ga_W 3 0 0 0 0 mX0_makeRound P ga_nox 16 [some (Vr 21), some (Vr 1), some (Vi 1), y3, y4] [] (HP τ0) := by
  have hall := dsg_all hd
  have ha : agS_9 σ β M E := hd.2.1
  have ha2 := ha
  obtain ⟨⟨hcN, hN2, hcD, hD2, hkd, hsz, hpin⟩, hbN, hbD, hport, hdev, hpb⟩ := ha2
  refine ga_iload_n dX0_makeRound_16 rfl ?_
  refine ga_iconst dX0_makeRound_17 ⟨by decide, by decide⟩ ?_
  refine ga_icmp_ge (tgt := 73) dX0_makeRound_18 rfl (fun c_18 => ?_) (fun c_18 => ?_)
  · omega
  · refine ga_aload_n dX0_makeRound_21 rfl ?_
    refine ga_iload_n dX0_makeRound_22 rfl ?_
    refine hc_V (T_X1_sideOf1_1 τ0) fX1_sideOf rfl kX1_sideOf lkX0_73 dX0_makeRound_23 rfl rfl rfl rfl rfl rfl rfl rfl ?_
    refine ga_astore_n (lv2 := [_, _, _, _, _]) dX0_makeRound_26 (by decide) rfl rfl ?_
    refine ga_iconst dX0_makeRound_27 ⟨by decide, by decide⟩ ?_
    refine ga_istore (lv2 := [_, _, _, _, _]) dX0_makeRound_28 (by decide) rfl rfl ?_
    refine (ga_loop E (fun d => ∀ τ, exc [24, 25, 31, 32] σ τ → DR β (σ.1 30) (τ.1 24) (τ.1 25) (120 * 1 + 4 * d) → NR β (σ.1 23) (τ.1 31) (τ.1 32) (120 * 1 + 4 * d) → ga_W 3 0 0 0 0 mX0_makeRound P ga_nox 30 [some (Vr 21), some (Vr 1), some (Vi 1), some (Vr 9), some (Vi (d : Int))] [] (HP τ)) ?_ ?_ 0 (Nat.zero_le _) τ0 hx0 hD hN : _)
    · intro τ hx h1 h2
      have h3 := DN_skip h1 h2 (120 - 4 * E) (fun z a b => by
        have := agF_dead ha (d := (z : Int) / 4 - 30 * 1) (by omega) (by omega)
        rw [show 30 * 1 + ((z : Int) / 4 - 30 * 1) = (z : Int) / 4 by omega] at this
        exact this)
      rw [show 120 * 1 + 4 * E + (120 - 4 * E) = 120 * (1 + 1) by omega] at h3
      have hc3 : τ.1 9 3 = E := by rw [hx.1 9 (by decide)]; exact hcD
      refine ga_iload dX0_makeRound_30 rfl ?_
      refine ga_aload_n dX0_makeRound_32 rfl ?_
      refine hg_getI 3 grX0_58 dX0_makeRound_33 rfl rfl rfl ?_
      refine ga_icmp_ge (tgt := 67) dX0_makeRound_36 rfl (fun c_36 => ?_) (fun c_36 => ?_)
      · refine ga_iinc (z := 2) (lv2 := [_, _, _, _, _]) dX0_makeRound_67 (by decide) rfl rfl (by omega) (⟨by omega, by omega⟩) rfl ?_
        refine ga_goto (tgt := 16) dX0_makeRound_70 rfl ?_
        exact K τ _ _ hx h3.1 h3.2
      · omega
    · intro d hdd ih τ hx h1 h2
      have hc3 : τ.1 9 3 = E := by rw [hx.1 9 (by decide)]; exact hcD
      have hl := agF_live ha (d := d) (by omega) (by omega)
      have hdt := dsg_exc hx (by decide) hd
      refine ga_iload dX0_makeRound_30 rfl ?_
      refine ga_aload_n dX0_makeRound_32 rfl ?_
      refine hg_getI 3 grX0_58 dX0_makeRound_33 rfl rfl rfl ?_
      refine ga_icmp_ge (tgt := 67) dX0_makeRound_36 rfl (fun c_36 => ?_) (fun c_36 => ?_)
      · omega
      · refine ga_aload_n dX0_makeRound_39 rfl ?_
        refine hg_getR grX0_63 dX0_makeRound_40 rfl rfl ?_
        refine ga_iload dX0_makeRound_43 rfl ?_
        refine hg_zald dX0_makeRound_45 rfl (by omega) (by omega) ?_
        refine ga_if_ne (tgt := 61) dX0_makeRound_46 rfl (fun c_46 => ?_) (fun c_46 => ?_)
        · rw [hx.1 14 (by decide)] at c_46
          have h3 := DN_skip h1 h2 4 (fun z a b => by
            rw [show ((z : Int) / 4) = 30 * 1 + (d : Int) by omega]
            exact fun z => c_46 (hl.mp z))
          refine ga_iinc (z := ((d + 1 : Nat) : Int)) (lv2 := [_, _, _, _, _]) dX0_makeRound_61 (by decide) rfl rfl (by omega) (⟨by omega, by omega⟩) rfl ?_
          refine ga_goto (tgt := 30) dX0_makeRound_64 rfl ?_
          exact ih τ hx h3.1 h3.2
        · rw [hx.1 14 (by decide)] at c_46
          have e30 := hx.1 30 (by decide)
          have e23 := hx.1 23 (by decide)
          refine ga_aload_n dX0_makeRound_49 rfl ?_
          refine ga_aload_n dX0_makeRound_50 rfl ?_
          refine hg_getR grX0_99 dX0_makeRound_51 rfl rfl ?_
          refine ga_aload_n dX0_makeRound_54 rfl ?_
          refine ga_iload_n dX0_makeRound_55 rfl ?_
          refine ga_iload dX0_makeRound_56 rfl ?_
          refine hc_VP (T_X0_addCodes_9 d τ β M E hdd hdt.2.1 hdt.2.2.1 hall.1 (hl.mpr c_46) (by rw [e30]; exact h1) (by rw [e23]; exact h2) (by rw [e23]; exact r23) (by rw [e30]; exact r30)) fX0_addCodes rfl kX0_addCodes lkX0_103 dX0_makeRound_58 rfl rfl rfl rfl rfl rfl rfl rfl ?_
          rintro v h ⟨τ2, x1, x2, x3, x4, x5⟩
          rw [x4, x5]
          rw [e30] at x2
          rw [e23] at x3
          refine ga_iinc (z := ((d + 1 : Nat) : Int)) (lv2 := [_, _, _, _, _]) dX0_makeRound_61 (by decide) rfl rfl (by omega) (⟨by omega, by omega⟩) rfl ?_
          refine ga_goto (tgt := 30) dX0_makeRound_64 rfl ?_
          exact ih τ2 (exc_tr hx x1 (fun _ z => z) (fun _ z => z)) x2 x3
theorem T_X0_makeRound (σ β : ga_S) (N D M E P Q : Nat) (R RN R2 RN2 : Int → Int) (hd : dsg σ β N D M E) (nD : numb 60 (bL β) (σ.1 23) P R) (nN : numb 80 (bU β) (σ.1 30) Q RN) (hP : σ.1 22 2 = P) (hQ : σ.1 29 2 = Q) (hRN : ∀ y : Int, 0 ≤ y → y < 80 → bU β y → 0 ≤ RN y) (h2 : ∀ x u : Int, 0 ≤ x → x < 60 → 0 ≤ u → u < 60 → bL β x → bL β u → (R2 x = R2 u ↔ R x = R u ∧ lkD β RN x u)) (h3 : ∀ x u : Int, 0 ≤ x → x < 80 → 0 ≤ u → u < 80 → bU β x → bU β u → (RN2 x = RN2 u ↔ RN x = RN u ∧ lkN β R x u)) : ga_Mt 3 0 0 mX0_makeRound [Vr 21, Vr 1] (HP σ) (fun v h => ∃ (τ : ga_S) (P2 Q2 : Nat), exc CL σ τ ∧ numb 60 (bL β) (τ.1 23) P2 R2 ∧ numb 80 (bU β) (τ.1 30) Q2 RN2 ∧ τ.1 22 2 = P2 ∧ τ.1 29 2 = Q2 ∧ v = some (Vi (tv (P < P2 ∨ Q < Q2))) ∧ h = HP τ) ga_nox := by
  obtain ⟨hp, hu, hg⟩ := dsg_all hd
  refine ga_meth [some (Vr 21), some (Vr 1), none, none, none] rfl rfl (by decide +kernel) (Nat.le_of_ble_eq_true rfl) rfl ?_
  refine ga_aload_n dX0_makeRound_0 rfl ?_
  refine hg_getR grX0_14 dX0_makeRound_1 rfl rfl ?_
  refine hc_Vv (T_X7_forgetCodes_22 _) fX7_forgetCodes rfl kX7_forgetCodes lkX0_96 dX0_makeRound_4 rfl rfl rfl rfl rfl rfl rfl rfl ?_
  refine ga_aload_n dX0_makeRound_7 rfl ?_
  refine hg_getR grX0_20 dX0_makeRound_8 rfl rfl ?_
  refine hc_Vv (T_X7_forgetCodes_29 _) fX7_forgetCodes rfl kX7_forgetCodes lkX0_96 dX0_makeRound_11 rfl rfl rfl rfl rfl rfl rfl rfl ?_
  refine ga_iconst dX0_makeRound_14 ⟨by decide, by decide⟩ ?_
  refine ga_istore_n (lv2 := [_, _, _, _, _]) dX0_makeRound_15 (by decide) rfl rfl ?_
  refine W_makeRound_2 σ β N D M E hd (fun x a b => numb_rng nD a b) (fun x a b => numb_rng nN a b) _ _ _ (exc_st (exc_st exc_r (by decide)) (by decide)) ?_ ?_ ?_
  · intro x a b
    exact rowE_0 (fillF_in ⟨a, b⟩)
  · intro x a b
    exact rowE_0 (fillF_in ⟨a, b⟩)
  · intro τ y3 y4 hx e1 e2
    refine W_makeRound_9 σ β N D M E hd (fun x a b => numb_rng nD a b) (fun x a b => numb_rng nN a b) _ _ τ hx e1 e2 ?_
    intro τ y3 y4 hx e1 e2
    rw [show 120 * (1 + 1) = 240 from rfl] at e1 e2
    have k23 := hx.1 23 (by decide)
    have k30 := hx.1 30 (by decide)
    have k22 := hx.1 22 (by decide)
    have k29 := hx.1 29 (by decide)
    refine ga_iload_n dX0_makeRound_16 rfl ?_
    refine ga_iconst dX0_makeRound_17 ⟨by decide, by decide⟩ ?_
    refine ga_icmp_ge (tgt := 73) dX0_makeRound_18 rfl (fun c_18 => ?_) (fun c_18 => ?_)
    · refine ga_aload_n dX0_makeRound_73 rfl ?_
      refine hg_getR grX0_14 dX0_makeRound_74 rfl rfl ?_
      refine hc_VP (T_X7_split_22 τ (fun u a b => by rw [k23]; exact numb_rng nD a b) (fun u a b => by have q1 := (e1 u a b).1; have q2 := (e1 u a b).2.1; have q3 := (evD_le (β := β) a 240).1; omega)) fX7_split rfl kX7_split lkX0_92 dX0_makeRound_77 rfl rfl rfl rfl rfl rfl rfl rfl ?_
      rintro v h ⟨τ1, P2, x1, x2, x3, x4, x5⟩
      rw [x3, x4]
      rw [k23] at x5
      have nD2 := numb_D hp hu hg nD (fun x u a b c d e f => nN.2.2.1 x u a b c d e f) (fun y a b c => ⟨(nN.2.1 y a b c).1, hRN y a b c⟩) e1 h2 x5
      refine ga_istore_n (lv2 := [_, _, _, _, _]) dX0_makeRound_80 (by decide) rfl rfl ?_
      refine ga_aload_n dX0_makeRound_81 rfl ?_
      refine hg_getR grX0_20 dX0_makeRound_82 rfl rfl ?_
      refine hc_VP (T_X7_split_29 τ1 (fun u a b => by rw [x1.1 30 (by decide), k30]; exact numb_rng nN a b) (fun u a b => by rw [x1.1 32 (by decide)]; have q1 := (e2 u a b).1; have q2 := (e2 u a b).2.1; have q3 := (evN_le hp a 240).1; omega)) fX7_split rfl kX7_split lkX0_92 dX0_makeRound_85 rfl rfl rfl rfl rfl rfl rfl rfl ?_
      rintro v h ⟨τ2, Q2, w1, w2, w3, w4, w5⟩
      rw [w3, w4]
      rw [x1.1 30 (by decide), x1.1 31 (by decide), x1.1 32 (by decide), k30] at w5
      have nN2 := numb_N hg nN (fun x u a b c d e f => nD.2.2.1 x u a b c d e f) e2 h3 w5
      have E : ∃ (τ' : ga_S) (P2' Q2' : Nat), exc CL σ τ' ∧ numb 60 (bL β) (τ'.1 23) P2' R2 ∧ numb 80 (bU β) (τ'.1 30) Q2' RN2 ∧ τ'.1 22 2 = P2' ∧ τ'.1 29 2 = Q2' ∧ some (Vi (tv (P < P2 ∨ Q < Q2))) = some (Vi (tv (P < P2' ∨ Q < Q2'))) ∧ HP τ2 = HP τ' :=
        ⟨τ2, P2, Q2, exc_tr (exc_tr hx x1 (L := CL) (by decide) (by decide)) w1 (by decide) (by decide), by rw [w1.1 23 (by decide)]; exact nD2, nN2, by rw [w1.1 22 (by decide)]; exact x2, w2, rfl, rfl⟩
      have t1 : τ.1 22 2 < P2 ↔ P < P2 := by rw [k22, hP]; omega
      have t2 : τ1.1 29 2 < Q2 ↔ Q < Q2 := by rw [x1.1 29 (by decide), k29, hQ]; omega
      refine ga_istore_n (lv2 := [_, _, _, _, _]) dX0_makeRound_88 (by decide) rfl rfl ?_
      refine ga_iload_n dX0_makeRound_89 rfl ?_
      refine ga_if_ne (tgt := 97) dX0_makeRound_90 rfl (fun c_90 => ?_) (fun c_90 => ?_)
      · rw [tv_ne0] at c_90
        rw [tv1 (Or.inl (t1.mp c_90))] at E
        refine ga_iconst dX0_makeRound_97 ⟨by decide, by decide⟩ ?_
        refine ga_goto (tgt := 102) dX0_makeRound_98 rfl ?_
        refine ga_ret (v := some _) ?_ rfl (by decide) (by decide) ⟨dX0_makeRound_102, _, rfl, rfl⟩
        exact E
      · rw [tv_eq0] at c_90
        refine ga_iload_n dX0_makeRound_93 rfl ?_
        refine ga_if_eq (tgt := 101) dX0_makeRound_94 rfl (fun c_94 => ?_) (fun c_94 => ?_)
        · rw [tv_eq0] at c_94
          rw [tvz (fun z => z.elim (fun y => c_90 (t1.mpr y)) (fun y => c_94 (t2.mpr y)))] at E
          refine ga_iconst dX0_makeRound_101 ⟨by decide, by decide⟩ ?_
          refine ga_ret (v := some _) ?_ rfl (by decide) (by decide) ⟨dX0_makeRound_102, _, rfl, rfl⟩
          exact E
        · rw [tv_ne0] at c_94
          rw [tv1 (Or.inr (t2.mp c_94))] at E
          refine ga_iconst dX0_makeRound_97 ⟨by decide, by decide⟩ ?_
          refine ga_goto (tgt := 102) dX0_makeRound_98 rfl ?_
          refine ga_ret (v := some _) ?_ rfl (by decide) (by decide) ⟨dX0_makeRound_102, _, rfl, rfl⟩
          exact E
    · omega
