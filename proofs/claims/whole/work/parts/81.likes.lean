-- the reference: pinsOnClass, isLikeDevice, pinsOfClass, isLikeNet
theorem T_X11_pinsOnClass (x g c : Int) (σ : ga_S) (h1 : 0 ≤ x) (h2 : x < 60) (hk : 0 ≤ σ.1 66 x ∧ σ.1 66 x < 8) (hp : ∀ z : Int, 0 ≤ z → z < 240 → -1 ≤ σ.1 69 z ∧ σ.1 69 z < 40) : ga_Mt 1 0 0 mX11_pinsOnClass [Vr 63, Vi x, Vi g, Vi c] (HP σ) (gis (some (Vi (pcO σ (σ.1 74) x g c))) σ) ga_nox := by
  refine ga_meth [some (Vr 63), some (Vi x), some (Vi g), some (Vi c), none, none, none, none] rfl rfl (by decide +kernel) (Nat.le_of_ble_eq_true rfl) rfl ?_
  unfold pcO
  have hb := fun m : Nat => sz_b (f := fun k => tv (gB σ (4 * x + k) = g ∧ σ.1 69 (4 * x + k) ≠ -1 ∧ σ.1 74 (40 * (x / 30) + σ.1 69 (4 * x + k)) = c)) (fun _ => tv_le) (n := m)
  refine ga_iload_n dX11_pinsOnClass_0 rfl ?_
  refine ga_bipush dX11_pinsOnClass_1 ⟨by decide, by decide⟩ (by decide) ?_
  refine ga_idiv (z := (x / 30)) dX11_pinsOnClass_3 (by omega) (by decide) (by omega) ?_
  refine ga_istore (lv2 := [_, _, _, _, _, _, _, _]) dX11_pinsOnClass_4 (by decide) rfl rfl ?_
  refine ga_iconst dX11_pinsOnClass_6 ⟨by decide, by decide⟩ ?_
  refine ga_istore (lv2 := [_, _, _, _, _, _, _, _]) dX11_pinsOnClass_7 (by decide) rfl rfl ?_
  refine ga_iconst dX11_pinsOnClass_9 ⟨by decide, by decide⟩ ?_
  refine ga_istore (lv2 := [_, _, _, _, _, _, _, _]) dX11_pinsOnClass_10 (by decide) rfl rfl ?_
  refine (ga_loop 4 (fun i => ∀ y, ga_W 1 0 0 0 0 mX11_pinsOnClass (gis (some (Vi (sz (fun k => tv (gB σ (4 * x + k) = g ∧ σ.1 69 (4 * x + k) ≠ -1 ∧ σ.1 74 (40 * (x / 30) + σ.1 69 (4 * x + k)) = c)) 4))) σ) ga_nox 12 [some (Vr 63), some (Vi x), some (Vi g), some (Vi c), some (Vi (x / 30)), some (Vi (sz (fun k => tv (gB σ (4 * x + k) = g ∧ σ.1 69 (4 * x + k) ≠ -1 ∧ σ.1 74 (40 * (x / 30) + σ.1 69 (4 * x + k)) = c)) i)), some (Vi (i : Int)), y] [] (HP σ)) ?_ ?_ 0 (Nat.zero_le _) _ : _)
  · intro y
    refine ga_iload dX11_pinsOnClass_12 rfl ?_
    refine ga_iconst dX11_pinsOnClass_14 ⟨by decide, by decide⟩ ?_
    refine ga_icmp_ge (tgt := 81) dX11_pinsOnClass_15 rfl (fun c_15 => ?_) (fun c_15 => ?_)
    · refine ga_iload dX11_pinsOnClass_81 rfl ?_
      refine ga_ret (v := some _) ?_ rfl (by decide) (by decide) ⟨dX11_pinsOnClass_83, _, rfl, rfl⟩
      exact ⟨rfl, rfl⟩
    · omega
  · intro i hi k y
    have h5 := hb i
    have pi := hp (4 * x + i) (by omega) (by omega)
    simp only [sz_s _ i] at k
    have TAIL : ∀ (v : Int) (y : Option ga_V), v = (fun k => tv (gB σ (4 * x + k) = g ∧ σ.1 69 (4 * x + k) ≠ -1 ∧ σ.1 74 (40 * (x / 30) + σ.1 69 (4 * x + k)) = c)) (i : Int) → ga_W 1 0 0 0 0 mX11_pinsOnClass (gis (some (Vi (sz (fun k => tv (gB σ (4 * x + k) = g ∧ σ.1 69 (4 * x + k) ≠ -1 ∧ σ.1 74 (40 * (x / 30) + σ.1 69 (4 * x + k)) = c)) 4))) σ) ga_nox 72 [some (Vr 63), some (Vi x), some (Vi g), some (Vi c), some (Vi (x / 30)), some (Vi (sz (fun k => tv (gB σ (4 * x + k) = g ∧ σ.1 69 (4 * x + k) ≠ -1 ∧ σ.1 74 (40 * (x / 30) + σ.1 69 (4 * x + k)) = c)) i)), some (Vi (i : Int)), y] [Vi v, Vi (sz (fun k => tv (gB σ (4 * x + k) = g ∧ σ.1 69 (4 * x + k) ≠ -1 ∧ σ.1 74 (40 * (x / 30) + σ.1 69 (4 * x + k)) = c)) i)] (HP σ) := by
      intro v y hv
      have hv2 := tv_le (p := gB σ (4 * x + (i : Int)) = g ∧ σ.1 69 (4 * x + (i : Int)) ≠ -1 ∧ σ.1 74 (40 * (x / 30) + σ.1 69 (4 * x + (i : Int))) = c)
      simp only [] at hv
      rw [← hv] at k hv2
      refine ga_iadd dX11_pinsOnClass_72 rfl (⟨by omega, by omega⟩) ?_
      refine ga_istore (lv2 := [_, _, _, _, _, _, _, _]) dX11_pinsOnClass_73 (by decide) rfl rfl ?_
      refine ga_iinc (z := (((i + 1 : Nat) : Int))) (lv2 := [_, _, _, _, _, _, _, _]) dX11_pinsOnClass_75 (by decide) rfl rfl (by omega) (⟨by omega, by omega⟩) rfl ?_
      refine ga_goto (tgt := 12) dX11_pinsOnClass_78 rfl ?_
      exact k _
    refine ga_iload dX11_pinsOnClass_12 rfl ?_
    refine ga_iconst dX11_pinsOnClass_14 ⟨by decide, by decide⟩ ?_
    refine ga_icmp_ge (tgt := 81) dX11_pinsOnClass_15 rfl (fun c_15 => ?_) (fun c_15 => ?_)
    · omega
    · refine ga_aload_n dX11_pinsOnClass_18 rfl ?_
      refine hg_getR grX11_27 dX11_pinsOnClass_19 rfl rfl ?_
      refine ga_iconst dX11_pinsOnClass_22 ⟨by decide, by decide⟩ ?_
      refine ga_iload_n dX11_pinsOnClass_23 rfl ?_
      refine ga_imul dX11_pinsOnClass_24 rfl (⟨by omega, by omega⟩) ?_
      refine ga_iload dX11_pinsOnClass_25 rfl ?_
      refine ga_iadd (z := (4 * x + (i : Int))) dX11_pinsOnClass_27 (by omega) (⟨by omega, by omega⟩) ?_
      refine hg_iald dX11_pinsOnClass_28 rfl (by omega) (by omega) ?_
      refine ga_istore (lv2 := [_, _, _, _, _, _, _, _]) dX11_pinsOnClass_29 (by decide) rfl rfl ?_
      refine ga_iload dX11_pinsOnClass_31 rfl ?_
      refine ga_aload_n dX11_pinsOnClass_33 rfl ?_
      refine ga_iload_n dX11_pinsOnClass_34 rfl ?_
      refine ga_iload dX11_pinsOnClass_35 rfl ?_
      refine hc_V (T_X11_group x i σ h1 h2 (by omega) (by omega) hk) fX11_group rfl kX11_group lkX11_107 dX11_pinsOnClass_37 rfl rfl rfl rfl rfl rfl rfl rfl ?_
      refine ga_iload_n dX11_pinsOnClass_40 rfl ?_
      refine ga_icmp_ne (tgt := 71) dX11_pinsOnClass_41 rfl (fun c_41 => ?_) (fun c_41 => ?_)
      · refine ga_iconst dX11_pinsOnClass_71 ⟨by decide, by decide⟩ ?_
        exact TAIL 0 _ (tvz (fun z => c_41 z.1)).symm
      · refine ga_iload dX11_pinsOnClass_44 rfl ?_
        refine ga_iconst dX11_pinsOnClass_46 ⟨by decide, by decide⟩ ?_
        refine ga_icmp_eq (tgt := 71) dX11_pinsOnClass_47 rfl (fun c_47 => ?_) (fun c_47 => ?_)
        · refine ga_iconst dX11_pinsOnClass_71 ⟨by decide, by decide⟩ ?_
          exact TAIL 0 _ (tvz (fun z => z.2.1 c_47)).symm
        · refine ga_aload_n dX11_pinsOnClass_50 rfl ?_
          refine hg_getR grX11_42 dX11_pinsOnClass_51 rfl rfl ?_
          refine ga_bipush dX11_pinsOnClass_54 ⟨by decide, by decide⟩ (by decide) ?_
          refine ga_iload dX11_pinsOnClass_56 rfl ?_
          refine ga_imul dX11_pinsOnClass_58 rfl (⟨by omega, by omega⟩) ?_
          refine ga_iload dX11_pinsOnClass_59 rfl ?_
          refine ga_iadd (z := (40 * (x / 30) + σ.1 69 (4 * x + (i : Int)))) dX11_pinsOnClass_61 (by omega) (⟨by omega, by omega⟩) ?_
          refine hg_iald dX11_pinsOnClass_62 rfl (by omega) (by omega) ?_
          refine ga_iload_n dX11_pinsOnClass_63 rfl ?_
          refine ga_icmp_ne (tgt := 71) dX11_pinsOnClass_64 rfl (fun c_64 => ?_) (fun c_64 => ?_)
          · refine ga_iconst dX11_pinsOnClass_71 ⟨by decide, by decide⟩ ?_
            exact TAIL 0 _ (tvz (fun z => c_64 z.2.2)).symm
          · refine ga_iconst dX11_pinsOnClass_67 ⟨by decide, by decide⟩ ?_
            refine ga_goto (tgt := 72) dX11_pinsOnClass_68 rfl ?_
            exact TAIL 1 _ (tv1 ⟨c_41, c_47, c_64⟩).symm
/-- what the whole reference keeps to -/
def wfR (σ : ga_S) (N D M E : Nat) : Prop := rok 0 σ N D ∧ rok 1 σ M E ∧ (∀ z : Int, 0 ≤ z → z < 240 → -1 ≤ σ.1 69 z ∧ σ.1 69 z < 40) ∧ (pinB σ ∧ usdB σ ∧ grpB σ) ∧ (∀ j : Int, 0 ≤ j → j < 32 → 0 ≤ σ.1 71 j ∧ σ.1 71 j < 4)
theorem wfR.side {σ : ga_S} {N D M E : Nat} (h : wfR σ N D M E) {s : Int} (hs : s = 0 ∨ s = 1) : ∃ F G : Nat, rok s σ F G := by
  rcases hs with q | q <;> rw [q]
  · exact ⟨N, D, h.1⟩
  · exact ⟨M, E, h.2.1⟩
theorem T_X11_isLikeDevice (a b : Int) (σ : ga_S) (N D M E : Nat) (hw : wfR σ N D M E) (a1 : 0 ≤ a) (a2 : a < 60) (b1 : 0 ≤ b) (b2 : b < 60) (la : bL σ a) (lb : bL σ b) (hn : okN σ (σ.1 74)) : ga_Mt 2 0 0 mX11_isLikeDevice [Vr 63, Vi a, Vi b] (HP σ) (gis (some (Vi (tv (relD σ (σ.1 73) (σ.1 74) a b)))) σ) ga_nox := by
  obtain ⟨hs0, hs1, hp, ⟨hpB, huB, hgB⟩, hg⟩ := hw
  have hk := hs0.2.2.2.2.2.1
  refine ga_meth [some (Vr 63), some (Vi a), some (Vi b), none, none, none, none, none] rfl rfl (by decide +kernel) (Nat.le_of_ble_eq_true rfl) rfl ?_
  refine ga_aload_n dX11_isLikeDevice_0 rfl ?_
  refine hg_getR grX11_39 dX11_isLikeDevice_1 rfl rfl ?_
  refine ga_iload_n dX11_isLikeDevice_4 rfl ?_
  refine hg_iald dX11_isLikeDevice_5 rfl (by omega) (by omega) ?_
  refine ga_aload_n dX11_isLikeDevice_6 rfl ?_
  refine hg_getR grX11_39 dX11_isLikeDevice_7 rfl rfl ?_
  refine ga_iload_n dX11_isLikeDevice_10 rfl ?_
  refine hg_iald dX11_isLikeDevice_11 rfl (by omega) (by omega) ?_
  refine ga_icmp_eq (tgt := 17) dX11_isLikeDevice_12 rfl (fun c_12 => ?_) (fun c_12 => ?_)
  rotate_left
  · refine ga_iconst dX11_isLikeDevice_15 ⟨by decide, by decide⟩ ?_
    refine ga_ret (v := some _) ?_ rfl (by decide) (by decide) ⟨dX11_isLikeDevice_16, _, rfl, rfl⟩
    exact ⟨tvf (fun z => c_12 z.1), rfl⟩
  have eR : tv (relD σ (σ.1 73) (σ.1 74) a b) = tv (∀ k : Nat, k < 4 → (fun k : Nat => dcC σ (σ.1 74) a (dcode σ (σ.1 74) (4 * a + k)) = dcC σ (σ.1 74) b (dcode σ (σ.1 74) (4 * a + k))) k) := tv_congr (Iff.trans ⟨fun w => w.2, fun w => ⟨c_12, w⟩⟩ (lkD_iff hpB huB hgB hn a1 a2 b1 b2 la lb))
  rw [eR]
  generalize hq : (fun k : Nat => dcC σ (σ.1 74) a (dcode σ (σ.1 74) (4 * a + k)) = dcC σ (σ.1 74) b (dcode σ (σ.1 74) (4 * a + k))) = Q
  refine ga_iconst dX11_isLikeDevice_17 ⟨by decide, by decide⟩ ?_
  refine ga_istore_n (lv2 := [_, _, _, _, _, _, _, _]) dX11_isLikeDevice_18 (by decide) rfl rfl ?_
  refine ga_iconst dX11_isLikeDevice_19 ⟨by decide, by decide⟩ ?_
  refine ga_istore (lv2 := [_, _, _, _, _, _, _, _]) dX11_isLikeDevice_20 (by decide) rfl rfl ?_
  refine ga_eqlv (lv2 := [some (Vr 63), some (Vi a), some (Vi b), some (Vi (tv (∀ k : Nat, k < 0 → Q k))), some (Vi ((0 : Nat) : Int)), none, none, none]) (by rw [tv1 (fun k hk => by omega)]; rfl) ?_
  refine (ga_loop 4 (fun i => ∀ x y z, ga_W 2 0 0 0 0 mX11_isLikeDevice (gis (some (Vi (tv (∀ k : Nat, k < 4 → Q k)))) σ) ga_nox 22 [some (Vr 63), some (Vi a), some (Vi b), some (Vi (tv (∀ k : Nat, k < i → Q k))), some (Vi (i : Int)), x, y, z] [] (HP σ)) ?_ ?_ 0 (Nat.zero_le _) _ _ _ : _)
  · intro x y z
    refine ga_iload dX11_isLikeDevice_22 rfl ?_
    refine ga_iconst dX11_isLikeDevice_24 ⟨by decide, by decide⟩ ?_
    refine ga_icmp_ge (tgt := 142) dX11_isLikeDevice_25 rfl (fun c_25 => ?_) (fun c_25 => ?_)
    · refine ga_iload_n dX11_isLikeDevice_142 rfl ?_
      refine ga_ret (v := some _) ?_ rfl (by decide) (by decide) ⟨dX11_isLikeDevice_143, _, rfl, tv_nb⟩
      exact ⟨rfl, rfl⟩
    · omega
  · intro i hi k x y z
    have pi := hp (4 * a + i) (by omega) (by omega)
    have la4 : bL σ ((4 * a + (i : Int)) / 4) := by rw [show (4 * a + (i : Int)) / 4 = a by omega]; exact la
    have gi := hgB (4 * a + i) (by omega) (by omega) la4
    have nb := nC_b hpB huB hn (z := 4 * a + i) (by omega) (by omega) la4
    have T136 : ∀ (v : Int) (x y z : Option ga_V), v = tv (∀ k : Nat, k < i + 1 → Q k) → ga_W 2 0 0 0 0 mX11_isLikeDevice (gis (some (Vi (tv (∀ k : Nat, k < 4 → Q k)))) σ) ga_nox 136 [some (Vr 63), some (Vi a), some (Vi b), some (Vi v), some (Vi (i : Int)), x, y, z] [] (HP σ) := by
      intro v x y z hv
      refine ga_iinc (z := ((i + 1 : Nat) : Int)) (lv2 := [_, _, _, _, _, _, _, _]) dX11_isLikeDevice_136 (by decide) rfl rfl (by omega) (⟨by omega, by omega⟩) rfl ?_
      refine ga_goto (tgt := 22) dX11_isLikeDevice_139 rfl ?_
      rw [hv]
      exact k _ _ _
    refine ga_iload dX11_isLikeDevice_22 rfl ?_
    refine ga_iconst dX11_isLikeDevice_24 ⟨by decide, by decide⟩ ?_
    refine ga_icmp_ge (tgt := 142) dX11_isLikeDevice_25 rfl (fun c_25 => ?_) (fun c_25 => ?_)
    · omega
    · refine ga_aload_n dX11_isLikeDevice_28 rfl ?_
      refine ga_iload_n dX11_isLikeDevice_29 rfl ?_
      refine ga_iload dX11_isLikeDevice_30 rfl ?_
      refine hc_V (T_X11_group a i σ a1 a2 (by omega) (by omega) (hk _ a1 a2)) fX11_group rfl kX11_group lkX11_107 dX11_isLikeDevice_32 rfl rfl rfl rfl rfl rfl rfl rfl ?_
      refine ga_istore (lv2 := [_, _, _, _, _, _, _, _]) dX11_isLikeDevice_35 (by decide) rfl rfl ?_
      refine ga_aload_n dX11_isLikeDevice_37 rfl ?_
      refine hg_getR grX11_27 dX11_isLikeDevice_38 rfl rfl ?_
      refine ga_iconst dX11_isLikeDevice_41 ⟨by decide, by decide⟩ ?_
      refine ga_iload_n dX11_isLikeDevice_42 rfl ?_
      refine ga_imul dX11_isLikeDevice_43 rfl (⟨by omega, by omega⟩) ?_
      refine ga_iload dX11_isLikeDevice_44 rfl ?_
      refine ga_iadd (z := (4 * a + (i : Int))) dX11_isLikeDevice_46 (by omega) (⟨by omega, by omega⟩) ?_
      refine hg_iald dX11_isLikeDevice_47 rfl (by omega) (by omega) ?_
      refine ga_istore (lv2 := [_, _, _, _, _, _, _, _]) dX11_isLikeDevice_48 (by decide) rfl rfl ?_
      refine ga_iload dX11_isLikeDevice_50 rfl ?_
      refine ga_iconst dX11_isLikeDevice_52 ⟨by decide, by decide⟩ ?_
      refine ga_icmp_ne (tgt := 88) dX11_isLikeDevice_53 rfl (fun c_53 => ?_) (fun c_53 => ?_)
      · -- the pin is on a net
        have eQ : Q i ↔ pcO σ (σ.1 74) a (gB σ (4 * a + i)) (σ.1 74 (40 * (a / 30) + σ.1 69 (4 * a + i))) = pcO σ (σ.1 74) b (gB σ (4 * a + i)) (σ.1 74 (40 * (a / 30) + σ.1 69 (4 * a + i))) := by
          rw [← hq]
          rcases nb with ⟨q1, _⟩ | ⟨q1, q2, q3, q4⟩
          · exact absurd q1 c_53
          · rw [show (4 * a + (i : Int)) / 120 = a / 30 by omega] at q2
            show dcC σ (σ.1 74) a ((nC σ (σ.1 74) (4 * a + i) + 1) * 4 + gB σ (4 * a + i)) = dcC σ (σ.1 74) b ((nC σ (σ.1 74) (4 * a + i) + 1) * 4 + gB σ (4 * a + i)) ↔ _
            rw [dcC_yes hpB huB hgB hn a1 a2 la gi.1 gi.2 q3, dcC_yes hpB huB hgB hn b1 b2 lb gi.1 gi.2 q3, q2]
        refine ga_aload_n dX11_isLikeDevice_88 rfl ?_
        refine hg_getR grX11_42 dX11_isLikeDevice_89 rfl rfl ?_
        refine ga_bipush dX11_isLikeDevice_92 ⟨by decide, by decide⟩ (by decide) ?_
        refine ga_iload_n dX11_isLikeDevice_94 rfl ?_
        refine ga_bipush dX11_isLikeDevice_95 ⟨by decide, by decide⟩ (by decide) ?_
        refine ga_idiv (z := (a / 30)) dX11_isLikeDevice_97 (by omega) (by decide) (by omega) ?_
        refine ga_imul (z := (40 * (a / 30))) dX11_isLikeDevice_98 (by omega) (⟨by omega, by omega⟩) ?_
        refine ga_iload dX11_isLikeDevice_99 rfl ?_
        refine ga_iadd dX11_isLikeDevice_101 rfl (⟨by omega, by omega⟩) ?_
        refine hg_iald dX11_isLikeDevice_102 rfl (by omega) (by omega) ?_
        refine ga_istore (lv2 := [_, _, _, _, _, _, _, _]) dX11_isLikeDevice_103 (by decide) rfl rfl ?_
        refine ga_iload_n dX11_isLikeDevice_105 rfl ?_
        refine ga_if_eq (tgt := 134) dX11_isLikeDevice_106 rfl (fun c_106 => ?_) (fun c_106 => ?_)
        · rw [tv_eq0] at c_106
          refine ga_iconst dX11_isLikeDevice_134 ⟨by decide, by decide⟩ ?_
          refine ga_istore_n (lv2 := [_, _, _, _, _, _, _, _]) dX11_isLikeDevice_135 (by decide) rfl rfl ?_
          exact T136 0 _ _ _ (tvz (fun z => c_106 (all_s.mp z).1)).symm
        · rw [tv_ne0] at c_106
          refine ga_aload_n dX11_isLikeDevice_109 rfl ?_
          refine ga_iload_n dX11_isLikeDevice_110 rfl ?_
          refine ga_iload dX11_isLikeDevice_111 rfl ?_
          refine ga_iload dX11_isLikeDevice_113 rfl ?_
          refine hc_V (T_X11_pinsOnClass a _ _ σ a1 a2 (hk _ a1 a2) hp) fX11_pinsOnClass rfl kX11_pinsOnClass lkX11_134 dX11_isLikeDevice_115 rfl rfl rfl rfl rfl rfl rfl rfl ?_
          refine ga_aload_n dX11_isLikeDevice_118 rfl ?_
          refine ga_iload_n dX11_isLikeDevice_119 rfl ?_
          refine ga_iload dX11_isLikeDevice_120 rfl ?_
          refine ga_iload dX11_isLikeDevice_122 rfl ?_
          refine hc_V (T_X11_pinsOnClass b _ _ σ b1 b2 (hk _ b1 b2) hp) fX11_pinsOnClass rfl kX11_pinsOnClass lkX11_134 dX11_isLikeDevice_124 rfl rfl rfl rfl rfl rfl rfl rfl ?_
          refine ga_icmp_ne (tgt := 134) dX11_isLikeDevice_127 rfl (fun c_127 => ?_) (fun c_127 => ?_)
          · refine ga_iconst dX11_isLikeDevice_134 ⟨by decide, by decide⟩ ?_
            refine ga_istore_n (lv2 := [_, _, _, _, _, _, _, _]) dX11_isLikeDevice_135 (by decide) rfl rfl ?_
            exact T136 0 _ _ _ (tvz (fun z => c_127 (eQ.mp (all_s.mp z).2))).symm
          · refine ga_iconst dX11_isLikeDevice_130 ⟨by decide, by decide⟩ ?_
            refine ga_goto (tgt := 135) dX11_isLikeDevice_131 rfl ?_
            refine ga_istore_n (lv2 := [_, _, _, _, _, _, _, _]) dX11_isLikeDevice_135 (by decide) rfl rfl ?_
            exact T136 1 _ _ _ (tv1 (all_s.mpr ⟨c_106, eQ.mpr c_127⟩)).symm
      · have eQ : Q i ↔ pO σ a (gB σ (4 * a + i)) (-1) = pO σ b (gB σ (4 * a + i)) (-1) := by
          rw [← hq]
          rcases nb with ⟨q1, q2⟩ | ⟨q1, _⟩
          · show dcC σ (σ.1 74) a ((nC σ (σ.1 74) (4 * a + i) + 1) * 4 + gB σ (4 * a + i)) = dcC σ (σ.1 74) b ((nC σ (σ.1 74) (4 * a + i) + 1) * 4 + gB σ (4 * a + i)) ↔ _
            rw [q2, dcC_no hpB huB hgB hn a1 a2 la gi.1 gi.2, dcC_no hpB huB hgB hn b1 b2 lb gi.1 gi.2]
          · exact absurd c_53 q1
        refine ga_iload_n dX11_isLikeDevice_56 rfl ?_
        refine ga_if_eq (tgt := 83) dX11_isLikeDevice_57 rfl (fun c_57 => ?_) (fun c_57 => ?_)
        · rw [tv_eq0] at c_57
          refine ga_iconst dX11_isLikeDevice_83 ⟨by decide, by decide⟩ ?_
          refine ga_istore_n (lv2 := [_, _, _, _, _, _, _, _]) dX11_isLikeDevice_84 (by decide) rfl rfl ?_
          refine ga_goto (tgt := 136) dX11_isLikeDevice_85 rfl ?_
          exact T136 0 _ _ _ (tvz (fun z => c_57 (all_s.mp z).1)).symm
        · rw [tv_ne0] at c_57
          refine ga_aload_n dX11_isLikeDevice_60 rfl ?_
          refine ga_iload_n dX11_isLikeDevice_61 rfl ?_
          refine ga_iload dX11_isLikeDevice_62 rfl ?_
          refine ga_iconst dX11_isLikeDevice_64 ⟨by decide, by decide⟩ ?_
          refine hc_V (T_X11_pinsOn a _ _ σ a1 a2 (hk _ a1 a2)) fX11_pinsOn rfl kX11_pinsOn lkX11_111 dX11_isLikeDevice_65 rfl rfl rfl rfl rfl rfl rfl rfl ?_
          refine ga_aload_n dX11_isLikeDevice_68 rfl ?_
          refine ga_iload_n dX11_isLikeDevice_69 rfl ?_
          refine ga_iload dX11_isLikeDevice_70 rfl ?_
          refine ga_iconst dX11_isLikeDevice_72 ⟨by decide, by decide⟩ ?_
          refine hc_V (T_X11_pinsOn b _ _ σ b1 b2 (hk _ b1 b2)) fX11_pinsOn rfl kX11_pinsOn lkX11_111 dX11_isLikeDevice_73 rfl rfl rfl rfl rfl rfl rfl rfl ?_
          refine ga_icmp_ne (tgt := 83) dX11_isLikeDevice_76 rfl (fun c_76 => ?_) (fun c_76 => ?_)
          · refine ga_iconst dX11_isLikeDevice_83 ⟨by decide, by decide⟩ ?_
            refine ga_istore_n (lv2 := [_, _, _, _, _, _, _, _]) dX11_isLikeDevice_84 (by decide) rfl rfl ?_
            refine ga_goto (tgt := 136) dX11_isLikeDevice_85 rfl ?_
            exact T136 0 _ _ _ (tvz (fun z => c_76 (eQ.mp (all_s.mp z).2))).symm
          · refine ga_iconst dX11_isLikeDevice_79 ⟨by decide, by decide⟩ ?_
            refine ga_goto (tgt := 84) dX11_isLikeDevice_80 rfl ?_
            refine ga_istore_n (lv2 := [_, _, _, _, _, _, _, _]) dX11_isLikeDevice_84 (by decide) rfl rfl ?_
            refine ga_goto (tgt := 136) dX11_isLikeDevice_85 rfl ?_
            exact T136 1 _ _ _ (tv1 (all_s.mpr ⟨c_57, eQ.mpr c_76⟩)).symm
