-- the reference: pinsOfClass, isLikeNet
theorem pkO_s (σ : ga_S) (CD : Int → Int) (y cd g : Int) (D : Nat) : pkO σ CD y cd g (D + 1) = pkO σ CD y cd g D + tif (σ.1 68 (30 * (y / 40) + D) = 0 ∧ CD (30 * (y / 40) + D) = cd) (pO σ (30 * (y / 40) + D) g (y % 40)) 0 := rfl
theorem pkO_b (σ : ga_S) (CD : Int → Int) (y cd g : Int) : ∀ D : Nat, 0 ≤ pkO σ CD y cd g D ∧ pkO σ CD y cd g D ≤ 4 * D
  | 0 => ⟨Int.le_refl _, Int.le_refl _⟩
  | D + 1 => by
    have ih := pkO_b σ CD y cd g D
    have p := pO_b (σ := σ) (x := 30 * (y / 40) + D) (g := g) (n := y % 40)
    rw [pkO_s]
    rcases Classical.em (σ.1 68 (30 * (y / 40) + D) = 0 ∧ CD (30 * (y / 40) + D) = cd) with q | q
    · rw [tif1 q]; omega
    · rw [tif0 q]; omega
theorem T_X11_pinsOfClass (y cd g : Int) (σ : ga_S) (D : Nat) (y1 : 0 ≤ y) (y2 : y < 80) (hD : σ.1 70 (y / 40) = D) (hD2 : D ≤ 30) (hk : ∀ x : Int, 0 ≤ x → x < 60 → 0 ≤ σ.1 66 x ∧ σ.1 66 x < 8) : ga_Mt 2 0 0 mX11_pinsOfClass [Vr 63, Vi y, Vi cd, Vi g] (HP σ) (gis (some (Vi (pkO σ (σ.1 73) y cd g D))) σ) ga_nox := by
  refine ga_meth [some (Vr 63), some (Vi y), some (Vi cd), some (Vi g), none, none, none] rfl rfl (by decide +kernel) (Nat.le_of_ble_eq_true rfl) rfl ?_
  refine ga_iload_n dX11_pinsOfClass_0 rfl ?_
  refine ga_bipush dX11_pinsOfClass_1 ⟨by decide, by decide⟩ (by decide) ?_
  refine ga_idiv (z := (y / 40)) dX11_pinsOfClass_3 (by omega) (by decide) (by omega) ?_
  refine ga_istore (lv2 := [_, _, _, _, _, _, _]) dX11_pinsOfClass_4 (by decide) rfl rfl ?_
  refine ga_iconst dX11_pinsOfClass_6 ⟨by decide, by decide⟩ ?_
  refine ga_istore (lv2 := [_, _, _, _, _, _, _]) dX11_pinsOfClass_7 (by decide) rfl rfl ?_
  refine ga_bipush dX11_pinsOfClass_9 ⟨by decide, by decide⟩ (by decide) ?_
  refine ga_iload dX11_pinsOfClass_11 rfl ?_
  refine ga_imul dX11_pinsOfClass_13 rfl (⟨by omega, by omega⟩) ?_
  refine ga_istore (lv2 := [_, _, _, _, _, _, _]) dX11_pinsOfClass_14 (by decide) rfl rfl ?_
  refine ga_eqlv (lv2 := [some (Vr 63), some (Vi y), some (Vi cd), some (Vi g), some (Vi (y / 40)), some (Vi (pkO σ (σ.1 73) y cd g 0)), some (Vi (30 * (y / 40) + ((0 : Nat) : Int)))]) (by rw [show 30 * (y / 40) + ((0 : Nat) : Int) = 30 * (y / 40) by omega]; rfl) ?_
  refine (ga_loop D (fun i => ga_W 2 0 0 0 0 mX11_pinsOfClass (gis (some (Vi (pkO σ (σ.1 73) y cd g D))) σ) ga_nox 16 [some (Vr 63), some (Vi y), some (Vi cd), some (Vi g), some (Vi (y / 40)), some (Vi (pkO σ (σ.1 73) y cd g i)), some (Vi (30 * (y / 40) + (i : Int)))] [] (HP σ)) ?_ ?_ 0 (Nat.zero_le _) : _)
  · refine ga_iload dX11_pinsOfClass_16 rfl ?_
    refine ga_bipush dX11_pinsOfClass_18 ⟨by decide, by decide⟩ (by decide) ?_
    refine ga_iload dX11_pinsOfClass_20 rfl ?_
    refine ga_imul dX11_pinsOfClass_22 rfl (⟨by omega, by omega⟩) ?_
    refine ga_aload_n dX11_pinsOfClass_23 rfl ?_
    refine hg_getR grX11_30 dX11_pinsOfClass_24 rfl rfl ?_
    refine ga_iload dX11_pinsOfClass_27 rfl ?_
    refine hg_iald dX11_pinsOfClass_29 rfl (by omega) (by omega) ?_
    refine ga_iadd dX11_pinsOfClass_30 rfl (⟨by omega, by omega⟩) ?_
    refine ga_icmp_ge (tgt := 77) dX11_pinsOfClass_31 rfl (fun c_31 => ?_) (fun c_31 => ?_)
    · refine ga_iload dX11_pinsOfClass_77 rfl ?_
      refine ga_ret (v := some _) ?_ rfl (by decide) (by decide) ⟨dX11_pinsOfClass_79, _, rfl, rfl⟩
      exact ⟨rfl, rfl⟩
    · omega
  · intro i hi k
    rw [pkO_s] at k
    have pb := pkO_b σ (σ.1 73) y cd g i
    have ob := pO_b (σ := σ) (x := 30 * (y / 40) + i) (g := g) (n := y % 40)
    have NO : ¬ (σ.1 68 (30 * (y / 40) + i) = 0 ∧ σ.1 73 (30 * (y / 40) + i) = cd) → ga_W 2 0 0 0 0 mX11_pinsOfClass (gis (some (Vi (pkO σ (σ.1 73) y cd g D))) σ) ga_nox 71 [some (Vr 63), some (Vi y), some (Vi cd), some (Vi g), some (Vi (y / 40)), some (Vi (pkO σ (σ.1 73) y cd g i)), some (Vi (30 * (y / 40) + (i : Int)))] [] (HP σ) := by
      intro hn
      rw [tif0 hn, Int.add_zero] at k
      refine ga_iinc (z := (30 * (y / 40) + ((i + 1 : Nat) : Int))) (lv2 := [_, _, _, _, _, _, _]) dX11_pinsOfClass_71 (by decide) rfl rfl (by omega) (⟨by omega, by omega⟩) rfl ?_
      refine ga_goto (tgt := 16) dX11_pinsOfClass_74 rfl ?_
      exact k
    refine ga_iload dX11_pinsOfClass_16 rfl ?_
    refine ga_bipush dX11_pinsOfClass_18 ⟨by decide, by decide⟩ (by decide) ?_
    refine ga_iload dX11_pinsOfClass_20 rfl ?_
    refine ga_imul dX11_pinsOfClass_22 rfl (⟨by omega, by omega⟩) ?_
    refine ga_aload_n dX11_pinsOfClass_23 rfl ?_
    refine hg_getR grX11_30 dX11_pinsOfClass_24 rfl rfl ?_
    refine ga_iload dX11_pinsOfClass_27 rfl ?_
    refine hg_iald dX11_pinsOfClass_29 rfl (by omega) (by omega) ?_
    refine ga_iadd dX11_pinsOfClass_30 rfl (⟨by omega, by omega⟩) ?_
    refine ga_icmp_ge (tgt := 77) dX11_pinsOfClass_31 rfl (fun c_31 => ?_) (fun c_31 => ?_)
    · omega
    · refine ga_aload_n dX11_pinsOfClass_34 rfl ?_
      refine hg_getR grX11_23 dX11_pinsOfClass_35 rfl rfl ?_
      refine ga_iload dX11_pinsOfClass_38 rfl ?_
      refine hg_zald dX11_pinsOfClass_40 rfl (by omega) (by omega) ?_
      refine ga_if_ne (tgt := 71) dX11_pinsOfClass_41 rfl (fun c_41 => ?_) (fun c_41 => ?_)
      · exact NO (fun q => c_41 q.1)
      · refine ga_aload_n dX11_pinsOfClass_44 rfl ?_
        refine hg_getR grX11_39 dX11_pinsOfClass_45 rfl rfl ?_
        refine ga_iload dX11_pinsOfClass_48 rfl ?_
        refine hg_iald dX11_pinsOfClass_50 rfl (by omega) (by omega) ?_
        refine ga_iload_n dX11_pinsOfClass_51 rfl ?_
        refine ga_icmp_ne (tgt := 71) dX11_pinsOfClass_52 rfl (fun c_52 => ?_) (fun c_52 => ?_)
        · exact NO (fun q => c_52 q.2)
        · rw [tif1 ⟨c_41, c_52⟩] at k
          refine ga_iload dX11_pinsOfClass_55 rfl ?_
          refine ga_aload_n dX11_pinsOfClass_57 rfl ?_
          refine ga_iload dX11_pinsOfClass_58 rfl ?_
          refine ga_iload_n dX11_pinsOfClass_60 rfl ?_
          refine ga_iload_n dX11_pinsOfClass_61 rfl ?_
          refine ga_bipush dX11_pinsOfClass_62 ⟨by decide, by decide⟩ (by decide) ?_
          refine ga_irem (z := (y % 40)) dX11_pinsOfClass_64 (by omega) (by decide) (by omega) ?_
          refine hc_V (T_X11_pinsOn (30 * (y / 40) + i) g (y % 40) σ (by omega) (by omega) (hk _ (by omega) (by omega))) fX11_pinsOn rfl kX11_pinsOn lkX11_111 dX11_pinsOfClass_65 rfl rfl rfl rfl rfl rfl rfl rfl ?_
          refine ga_iadd dX11_pinsOfClass_68 rfl (⟨by omega, by omega⟩) ?_
          refine ga_istore (lv2 := [_, _, _, _, _, _, _]) dX11_pinsOfClass_69 (by decide) rfl rfl ?_
          refine ga_iinc (z := (30 * (y / 40) + ((i + 1 : Nat) : Int))) (lv2 := [_, _, _, _, _, _, _]) dX11_pinsOfClass_71 (by decide) rfl rfl (by omega) (⟨by omega, by omega⟩) rfl ?_
          refine ga_goto (tgt := 16) dX11_pinsOfClass_74 rfl ?_
          exact k
def nQ (σ : ga_S) (a b : Int) (Da Db : Nat) (j : Nat) : Prop := (σ.1 68 (30 * (a / 40) + (j : Int) / 4) = 0 ∧ σ.1 69 (120 * (a / 40) + j) = a % 40) → pkO σ (σ.1 73) a (σ.1 73 (30 * (a / 40) + (j : Int) / 4)) (gB σ (120 * (a / 40) + j)) Da = pkO σ (σ.1 73) b (σ.1 73 (30 * (a / 40) + (j : Int) / 4)) (gB σ (120 * (a / 40) + j)) Db
theorem nQ_iff {σ : ga_S} {a b : Int} {Da Db : Nat} (hp : pinB σ) (hg : grpB σ) (hd : okD σ (σ.1 73)) (a1 : 0 ≤ a) (a2 : a < 80) (b1 : 0 ≤ b) (b2 : b < 80) (hDa : σ.1 70 (a / 40) = Da) (hDb : σ.1 70 (b / 40) = Db) (hDa2 : Da ≤ 30) (hDb2 : Db ≤ 30) : lkN σ (σ.1 73) a b ↔ allB σ (a / 40) (a % 40) = allB σ (b / 40) (b % 40) ∧ ∀ j : Nat, j < 4 * Da → nQ σ a b Da Db j := by
  rw [lkN_iff hg hd, evN_all hp a1 a2 hDa hDa2, evN_all hp b1 b2 hDb hDb2]
  have CN : ∀ i : Nat, i < 240 → evN σ a i → (sz (fun z => tv (evN σ a z ∧ ncode σ (σ.1 73) z = ncode σ (σ.1 73) i)) 240 = sz (fun z => tv (evN σ b z ∧ ncode σ (σ.1 73) z = ncode σ (σ.1 73) i)) 240 ↔ pkO σ (σ.1 73) a (σ.1 73 ((i : Int) / 4)) (gB σ i) Da = pkO σ (σ.1 73) b (σ.1 73 ((i : Int) / 4)) (gB σ i) Db) := by
    intro i hi w
    have g := hg i (by omega) (by omega) w.2.2.1
    unfold ncode
    have e1 := evN_cnt (CD := σ.1 73) (cd := σ.1 73 ((i : Int) / 4)) hp hg a1 a2 hDa hDa2 g.1 g.2
    have e2 := evN_cnt (CD := σ.1 73) (cd := σ.1 73 ((i : Int) / 4)) hp hg b1 b2 hDb hDb2 g.1 g.2
    unfold ncode at e1 e2
    rw [e1, e2]
  refine and_congr Iff.rfl ⟨fun h j hj w => ?_, fun h i hi w => ?_⟩
  · have ev : evN σ a ((120 * (a / 40) + (j : Int)).toNat : Int) := by
      rw [Int.toNat_of_nonneg (by omega), evN_side hp]
      refine ⟨by omega, by omega, ⟨?_, ?_⟩, by omega, w.2⟩
      · rw [show (120 * (a / 40) + (j : Int)) / 4 / 30 = a / 40 by omega, hDa]; omega
      · rw [show (120 * (a / 40) + (j : Int)) / 4 = 30 * (a / 40) + j / 4 by omega]; exact w.1
    have := (CN _ (by omega) ev).mp (h _ (by omega) ev)
    rw [Int.toNat_of_nonneg (by omega), show (120 * (a / 40) + (j : Int)) / 4 = 30 * (a / 40) + j / 4 by omega] at this
    exact this
  · have e := (evN_side hp).mp w
    have e3 := e.2.2.1
    have e4 := e3.1
    rw [show (i : Int) / 4 / 30 = a / 40 by omega, hDa] at e4
    have q := h (i - 120 * (a / 40).toNat) (by omega)
    unfold nQ at q
    rw [show 120 * (a / 40) + ((i - 120 * (a / 40).toNat : Nat) : Int) = i by omega, show 30 * (a / 40) + ((i - 120 * (a / 40).toNat : Nat) : Int) / 4 = (i : Int) / 4 by omega] at q
    exact (CN i hi w).mpr (q ⟨e3.2, e.2.2.2.2⟩)
theorem T_X11_isLikeNet (a b : Int) (σ : ga_S) (N D M E : Nat) (hw : wfR σ N D M E) (a1 : 0 ≤ a) (a2 : a < 80) (b1 : 0 ≤ b) (b2 : b < 80) (hd : okD σ (σ.1 73)) : ga_Mt 3 0 0 mX11_isLikeNet [Vr 63, Vi a, Vi b] (HP σ) (gis (some (Vi (tv (relN σ (σ.1 74) (σ.1 73) a b)))) σ) ga_nox := by
  obtain ⟨F, Da, ha⟩ := hw.side (s := a / 40) (by omega)
  obtain ⟨G, Db, hb⟩ := hw.side (s := b / 40) (by omega)
  obtain ⟨hs0, hs1, hp, ⟨hpB, huB, hgB⟩, hg⟩ := hw
  have hk := hs0.2.2.2.2.2.1
  have hDa := ha.2.1
  have hDa2 := ha.2.2.1
  have hDb := hb.2.1
  have hDb2 := hb.2.2.1
  have IFF := nQ_iff hpB hgB hd a1 a2 b1 b2 hDa hDb hDa2 hDb2
  refine ga_meth [some (Vr 63), some (Vi a), some (Vi b), none, none, none, none] rfl rfl (by decide +kernel) (Nat.le_of_ble_eq_true rfl) rfl ?_
  refine ga_aload_n dX11_isLikeNet_0 rfl ?_
  refine hg_getR grX11_42 dX11_isLikeNet_1 rfl rfl ?_
  refine ga_iload_n dX11_isLikeNet_4 rfl ?_
  refine hg_iald dX11_isLikeNet_5 rfl (by omega) (by omega) ?_
  refine ga_aload_n dX11_isLikeNet_6 rfl ?_
  refine hg_getR grX11_42 dX11_isLikeNet_7 rfl rfl ?_
  refine ga_iload_n dX11_isLikeNet_10 rfl ?_
  refine hg_iald dX11_isLikeNet_11 rfl (by omega) (by omega) ?_
  refine ga_icmp_ne (tgt := 42) dX11_isLikeNet_12 rfl (fun c_12 => ?_) (fun c_12 => ?_)
  · refine ga_iconst dX11_isLikeNet_42 ⟨by decide, by decide⟩ ?_
    refine ga_ret (v := some _) ?_ rfl (by decide) (by decide) ⟨dX11_isLikeNet_43, _, rfl, rfl⟩
    exact ⟨tvf (fun z => c_12 z.1), rfl⟩
  refine ga_aload_n dX11_isLikeNet_15 rfl ?_
  refine ga_iload_n dX11_isLikeNet_16 rfl ?_
  refine ga_bipush dX11_isLikeNet_17 ⟨by decide, by decide⟩ (by decide) ?_
  refine ga_idiv (z := (a / 40)) dX11_isLikeNet_19 (by omega) (by decide) (by omega) ?_
  refine ga_iload_n dX11_isLikeNet_20 rfl ?_
  refine ga_bipush dX11_isLikeNet_21 ⟨by decide, by decide⟩ (by decide) ?_
  refine ga_irem (z := (a % 40)) dX11_isLikeNet_23 (by omega) (by decide) (by omega) ?_
  refine hc_V (T_X11_all (a / 40) (a % 40) σ Da (by omega) hDa hDa2) fX11_all rfl kX11_all lkX11_118 dX11_isLikeNet_24 rfl rfl rfl rfl rfl rfl rfl rfl ?_
  refine ga_aload_n dX11_isLikeNet_27 rfl ?_
  refine ga_iload_n dX11_isLikeNet_28 rfl ?_
  refine ga_bipush dX11_isLikeNet_29 ⟨by decide, by decide⟩ (by decide) ?_
  refine ga_idiv (z := (b / 40)) dX11_isLikeNet_31 (by omega) (by decide) (by omega) ?_
  refine ga_iload_n dX11_isLikeNet_32 rfl ?_
  refine ga_bipush dX11_isLikeNet_33 ⟨by decide, by decide⟩ (by decide) ?_
  refine ga_irem (z := (b % 40)) dX11_isLikeNet_35 (by omega) (by decide) (by omega) ?_
  refine hc_V (T_X11_all (b / 40) (b % 40) σ Db (by omega) hDb hDb2) fX11_all rfl kX11_all lkX11_118 dX11_isLikeNet_36 rfl rfl rfl rfl rfl rfl rfl rfl ?_
  refine ga_icmp_eq (tgt := 44) dX11_isLikeNet_39 rfl (fun c_39 => ?_) (fun c_39 => ?_)
  rotate_left
  · refine ga_iconst dX11_isLikeNet_42 ⟨by decide, by decide⟩ ?_
    refine ga_ret (v := some _) ?_ rfl (by decide) (by decide) ⟨dX11_isLikeNet_43, _, rfl, rfl⟩
    exact ⟨tvf (fun z => c_39 (IFF.mp z.2).1), rfl⟩
  have eR : tv (relN σ (σ.1 74) (σ.1 73) a b) = tv (∀ j : Nat, j < 4 * Da → nQ σ a b Da Db j) := tv_congr (Iff.trans ⟨fun w => w.2, fun w => ⟨c_12, w⟩⟩ (IFF.trans ⟨fun w => w.2, fun w => ⟨c_39, w⟩⟩))
  rw [eR]
  refine ga_iload_n dX11_isLikeNet_44 rfl ?_
  refine ga_bipush dX11_isLikeNet_45 ⟨by decide, by decide⟩ (by decide) ?_
  refine ga_idiv (z := (a / 40)) dX11_isLikeNet_47 (by omega) (by decide) (by omega) ?_
  refine ga_istore_n (lv2 := [_, _, _, _, _, _, _]) dX11_isLikeNet_48 (by decide) rfl rfl ?_
  refine ga_iconst dX11_isLikeNet_49 ⟨by decide, by decide⟩ ?_
  refine ga_istore (lv2 := [_, _, _, _, _, _, _]) dX11_isLikeNet_50 (by decide) rfl rfl ?_
  refine ga_bipush dX11_isLikeNet_52 ⟨by decide, by decide⟩ (by decide) ?_
  refine ga_iload_n dX11_isLikeNet_54 rfl ?_
  refine ga_imul (z := (30 * (a / 40))) dX11_isLikeNet_55 (by omega) (⟨by omega, by omega⟩) ?_
  refine ga_istore (lv2 := [_, _, _, _, _, _, _]) dX11_isLikeNet_56 (by decide) rfl rfl ?_
  refine ga_eqlv (lv2 := [some (Vr 63), some (Vi a), some (Vi b), some (Vi (a / 40)), some (Vi (tv (∀ j : Nat, j < 4 * 0 → nQ σ a b Da Db j))), some (Vi (30 * (a / 40) + ((0 : Nat) : Int))), none]) (by rw [tv1 (fun k hk => by omega), show 30 * (a / 40) + ((0 : Nat) : Int) = 30 * (a / 40) by omega]) ?_
  refine (ga_loop Da (fun i => ∀ y, ga_W 3 0 0 0 0 mX11_isLikeNet (gis (some (Vi (tv (∀ j : Nat, j < 4 * Da → nQ σ a b Da Db j)))) σ) ga_nox 58 [some (Vr 63), some (Vi a), some (Vi b), some (Vi (a / 40)), some (Vi (tv (∀ j : Nat, j < 4 * i → nQ σ a b Da Db j))), some (Vi (30 * (a / 40) + (i : Int))), y] [] (HP σ)) ?_ ?_ 0 (Nat.zero_le _) _ : _)
  · intro y
    refine ga_iload dX11_isLikeNet_58 rfl ?_
    refine ga_bipush dX11_isLikeNet_60 ⟨by decide, by decide⟩ (by decide) ?_
    refine ga_iload_n dX11_isLikeNet_62 rfl ?_
    refine ga_imul dX11_isLikeNet_63 rfl (⟨by omega, by omega⟩) ?_
    refine ga_aload_n dX11_isLikeNet_64 rfl ?_
    refine hg_getR grX11_30 dX11_isLikeNet_65 rfl rfl ?_
    refine ga_iload_n dX11_isLikeNet_68 rfl ?_
    refine hg_iald dX11_isLikeNet_69 rfl (by omega) (by omega) ?_
    refine ga_iadd dX11_isLikeNet_70 rfl (⟨by omega, by omega⟩) ?_
    refine ga_icmp_ge (tgt := 179) dX11_isLikeNet_71 rfl (fun c_71 => ?_) (fun c_71 => ?_)
    · refine ga_iload dX11_isLikeNet_179 rfl ?_
      refine ga_ret (v := some _) ?_ rfl (by decide) (by decide) ⟨dX11_isLikeNet_181, _, rfl, tv_nb⟩
      exact ⟨rfl, rfl⟩
    · omega
  · intro i hi k y
    refine ga_iload dX11_isLikeNet_58 rfl ?_
    refine ga_bipush dX11_isLikeNet_60 ⟨by decide, by decide⟩ (by decide) ?_
    refine ga_iload_n dX11_isLikeNet_62 rfl ?_
    refine ga_imul dX11_isLikeNet_63 rfl (⟨by omega, by omega⟩) ?_
    refine ga_aload_n dX11_isLikeNet_64 rfl ?_
    refine hg_getR grX11_30 dX11_isLikeNet_65 rfl rfl ?_
    refine ga_iload_n dX11_isLikeNet_68 rfl ?_
    refine hg_iald dX11_isLikeNet_69 rfl (by omega) (by omega) ?_
    refine ga_iadd dX11_isLikeNet_70 rfl (⟨by omega, by omega⟩) ?_
    refine ga_icmp_ge (tgt := 179) dX11_isLikeNet_71 rfl (fun c_71 => ?_) (fun c_71 => ?_)
    · omega
    · refine ga_iconst dX11_isLikeNet_74 ⟨by decide, by decide⟩ ?_
      refine ga_istore (lv2 := [_, _, _, _, _, _, _]) dX11_isLikeNet_75 (by decide) rfl rfl ?_
      refine (ga_loop 4 (fun q => ga_W 3 0 0 0 0 mX11_isLikeNet (gis (some (Vi (tv (∀ j : Nat, j < 4 * Da → nQ σ a b Da Db j)))) σ) ga_nox 77 [some (Vr 63), some (Vi a), some (Vi b), some (Vi (a / 40)), some (Vi (tv (∀ j : Nat, j < 4 * i + q → nQ σ a b Da Db j))), some (Vi (30 * (a / 40) + (i : Int))), some (Vi (q : Int))] [] (HP σ)) ?_ ?_ 0 (Nat.zero_le _) : _)
      · refine ga_iload dX11_isLikeNet_77 rfl ?_
        refine ga_iconst dX11_isLikeNet_79 ⟨by decide, by decide⟩ ?_
        refine ga_icmp_ge (tgt := 173) dX11_isLikeNet_80 rfl (fun c_80 => ?_) (fun c_80 => ?_)
        · refine ga_iinc (z := (30 * (a / 40) + ((i + 1 : Nat) : Int))) (lv2 := [_, _, _, _, _, _, _]) dX11_isLikeNet_173 (by decide) rfl rfl (by omega) (⟨by omega, by omega⟩) rfl ?_
          refine ga_goto (tgt := 58) dX11_isLikeNet_176 rfl ?_
          exact k _
        · omega
      · intro q hq k2
        have e1 : ((4 * i + q : Nat) : Int) / 4 = i := by omega
        have e2 : 120 * (a / 40) + ((4 * i + q : Nat) : Int) = 4 * (30 * (a / 40) + i) + q := by omega
        have T167 : ∀ v : Int, v = tv (∀ j : Nat, j < 4 * i + q + 1 → nQ σ a b Da Db j) → ga_W 3 0 0 0 0 mX11_isLikeNet (gis (some (Vi (tv (∀ j : Nat, j < 4 * Da → nQ σ a b Da Db j)))) σ) ga_nox 167 [some (Vr 63), some (Vi a), some (Vi b), some (Vi (a / 40)), some (Vi v), some (Vi (30 * (a / 40) + (i : Int))), some (Vi (q : Int))] [] (HP σ) := by
          intro v hv
          refine ga_iinc (z := ((q + 1 : Nat) : Int)) (lv2 := [_, _, _, _, _, _, _]) dX11_isLikeNet_167 (by decide) rfl rfl (by omega) (⟨by omega, by omega⟩) rfl ?_
          refine ga_goto (tgt := 77) dX11_isLikeNet_170 rfl ?_
          rw [hv]
          exact k2
        refine ga_iload dX11_isLikeNet_77 rfl ?_
        refine ga_iconst dX11_isLikeNet_79 ⟨by decide, by decide⟩ ?_
        refine ga_icmp_ge (tgt := 173) dX11_isLikeNet_80 rfl (fun c_80 => ?_) (fun c_80 => ?_)
        · omega
        · refine ga_aload_n dX11_isLikeNet_83 rfl ?_
          refine hg_getR grX11_23 dX11_isLikeNet_84 rfl rfl ?_
          refine ga_iload dX11_isLikeNet_87 rfl ?_
          refine hg_zald dX11_isLikeNet_89 rfl (by omega) (by omega) ?_
          refine ga_if_ne (tgt := 173) dX11_isLikeNet_90 rfl (fun c_90 => ?_) (fun c_90 => ?_)
          · have key : ∀ r : Nat, q + r ≤ 4 → ((∀ j : Nat, j < 4 * i + q + r → nQ σ a b Da Db j) ↔ (∀ j : Nat, j < 4 * i + q → nQ σ a b Da Db j)) := by
              intro r
              induction r with
              | zero => intro _; exact Iff.rfl
              | succ r ih =>
                intro hr
                rw [← ih (by omega), show 4 * i + q + (r + 1) = 4 * i + q + r + 1 by omega, all_s]
                refine ⟨fun w => w.1, fun w => ⟨w, fun z => absurd z.1 ?_⟩⟩
                rw [show ((4 * i + q + r : Nat) : Int) / 4 = i by omega]
                exact c_90
            have e3 := tv_congr (key (4 - q) (by omega))
            rw [show 4 * i + q + (4 - q) = 4 * (i + 1) by omega] at e3
            rw [← e3]
            refine ga_iinc (z := (30 * (a / 40) + ((i + 1 : Nat) : Int))) (lv2 := [_, _, _, _, _, _, _]) dX11_isLikeNet_173 (by decide) rfl rfl (by omega) (⟨by omega, by omega⟩) rfl ?_
            refine ga_goto (tgt := 58) dX11_isLikeNet_176 rfl ?_
            exact k _
          · refine ga_aload_n dX11_isLikeNet_93 rfl ?_
            refine hg_getR grX11_27 dX11_isLikeNet_94 rfl rfl ?_
            refine ga_iconst dX11_isLikeNet_97 ⟨by decide, by decide⟩ ?_
            refine ga_iload dX11_isLikeNet_98 rfl ?_
            refine ga_imul dX11_isLikeNet_100 rfl (⟨by omega, by omega⟩) ?_
            refine ga_iload dX11_isLikeNet_101 rfl ?_
            refine ga_iadd (z := (4 * (30 * (a / 40) + (i : Int)) + q)) dX11_isLikeNet_103 (by omega) (⟨by omega, by omega⟩) ?_
            refine hg_iald dX11_isLikeNet_104 rfl (by omega) (by omega) ?_
            refine ga_iload_n dX11_isLikeNet_105 rfl ?_
            refine ga_bipush dX11_isLikeNet_106 ⟨by decide, by decide⟩ (by decide) ?_
            refine ga_irem (z := (a % 40)) dX11_isLikeNet_108 (by omega) (by decide) (by omega) ?_
            refine ga_icmp_ne (tgt := 167) dX11_isLikeNet_109 rfl (fun c_109 => ?_) (fun c_109 => ?_)
            · refine T167 _ (tv_congr ⟨fun w => all_s.mpr ⟨w, fun z => absurd z.2 ?_⟩, fun w => (all_s.mp w).1⟩)
              rw [e2]
              exact c_109
            · have eQ : nQ σ a b Da Db (4 * i + q) ↔ pkO σ (σ.1 73) a (σ.1 73 (30 * (a / 40) + i)) (gB σ (4 * (30 * (a / 40) + i) + q)) Da = pkO σ (σ.1 73) b (σ.1 73 (30 * (a / 40) + i)) (gB σ (4 * (30 * (a / 40) + i) + q)) Db := by
                unfold nQ
                rw [e1, e2]
                exact ⟨fun w => w ⟨c_90, c_109⟩, fun w _ => w⟩
              refine ga_iload dX11_isLikeNet_112 rfl ?_
              refine ga_if_eq (tgt := 164) dX11_isLikeNet_114 rfl (fun c_114 => ?_) (fun c_114 => ?_)
              · rw [tv_eq0] at c_114
                refine ga_iconst dX11_isLikeNet_164 ⟨by decide, by decide⟩ ?_
                refine ga_istore (lv2 := [_, _, _, _, _, _, _]) dX11_isLikeNet_165 (by decide) rfl rfl ?_
                exact T167 0 (tvz (fun z => c_114 (all_s.mp z).1)).symm
              · rw [tv_ne0] at c_114
                refine ga_aload_n dX11_isLikeNet_117 rfl ?_
                refine ga_iload_n dX11_isLikeNet_118 rfl ?_
                refine ga_aload_n dX11_isLikeNet_119 rfl ?_
                refine hg_getR grX11_39 dX11_isLikeNet_120 rfl rfl ?_
                refine ga_iload dX11_isLikeNet_123 rfl ?_
                refine hg_iald dX11_isLikeNet_125 rfl (by omega) (by omega) ?_
                refine ga_aload_n dX11_isLikeNet_126 rfl ?_
                refine ga_iload dX11_isLikeNet_127 rfl ?_
                refine ga_iload dX11_isLikeNet_129 rfl ?_
                refine hc_V (T_X11_group (30 * (a / 40) + i) q σ (by omega) (by omega) (by omega) (by omega) (hk _ (by omega) (by omega))) fX11_group rfl kX11_group lkX11_107 dX11_isLikeNet_131 rfl rfl rfl rfl rfl rfl rfl rfl ?_
                refine hc_V (T_X11_pinsOfClass a _ _ σ Da a1 a2 hDa hDa2 hk) fX11_pinsOfClass rfl kX11_pinsOfClass lkX11_137 dX11_isLikeNet_134 rfl rfl rfl rfl rfl rfl rfl rfl ?_
                refine ga_aload_n dX11_isLikeNet_137 rfl ?_
                refine ga_iload_n dX11_isLikeNet_138 rfl ?_
                refine ga_aload_n dX11_isLikeNet_139 rfl ?_
                refine hg_getR grX11_39 dX11_isLikeNet_140 rfl rfl ?_
                refine ga_iload dX11_isLikeNet_143 rfl ?_
                refine hg_iald dX11_isLikeNet_145 rfl (by omega) (by omega) ?_
                refine ga_aload_n dX11_isLikeNet_146 rfl ?_
                refine ga_iload dX11_isLikeNet_147 rfl ?_
                refine ga_iload dX11_isLikeNet_149 rfl ?_
                refine hc_V (T_X11_group (30 * (a / 40) + i) q σ (by omega) (by omega) (by omega) (by omega) (hk _ (by omega) (by omega))) fX11_group rfl kX11_group lkX11_107 dX11_isLikeNet_151 rfl rfl rfl rfl rfl rfl rfl rfl ?_
                refine hc_V (T_X11_pinsOfClass b _ _ σ Db b1 b2 hDb hDb2 hk) fX11_pinsOfClass rfl kX11_pinsOfClass lkX11_137 dX11_isLikeNet_154 rfl rfl rfl rfl rfl rfl rfl rfl ?_
                refine ga_icmp_ne (tgt := 164) dX11_isLikeNet_157 rfl (fun c_157 => ?_) (fun c_157 => ?_)
                · refine ga_iconst dX11_isLikeNet_164 ⟨by decide, by decide⟩ ?_
                  refine ga_istore (lv2 := [_, _, _, _, _, _, _]) dX11_isLikeNet_165 (by decide) rfl rfl ?_
                  exact T167 0 (tvz (fun z => c_157 (eQ.mp (all_s.mp z).2))).symm
                · refine ga_iconst dX11_isLikeNet_160 ⟨by decide, by decide⟩ ?_
                  refine ga_goto (tgt := 165) dX11_isLikeNet_161 rfl ?_
                  refine ga_istore (lv2 := [_, _, _, _, _, _, _]) dX11_isLikeNet_165 (by decide) rfl rfl ?_
                  exact T167 1 (tv1 (all_s.mpr ⟨c_114, eQ.mpr c_157⟩)).symm
