-- the reference: isParallel, isChain, common
abbrev vK (s : Int) (σ : ga_S) : Int → Int := fun d => σ.1 66 (30 * s + d)
abbrev vG (s : Int) (σ : ga_S) : Int → Int := fun d => σ.1 68 (30 * s + d)
abbrev vP (s : Int) (σ : ga_S) : Int → Int := fun j => σ.1 69 (120 * s + j)
abbrev vT (s : Int) (σ : ga_S) : Int → Int := fun n => σ.1 64 (40 * s + n)
theorem all_s {Q : Nat → Prop} {n : Nat} : (∀ k : Nat, k < n + 1 → Q k) ↔ (∀ k : Nat, k < n → Q k) ∧ Q n := by
  constructor
  · intro h
    exact ⟨fun k hk => h k (by omega), h n (by omega)⟩
  · rintro ⟨h, g⟩ k hk
    by_cases e : k = n
    · rw [e]; exact g
    · exact h k (by omega)
theorem pO_v {s d g n : Int} {σ : ga_S} : pO σ (30 * s + d) g n = pc4 (vP s σ) (σ.1 71) (vK s σ) d g n := by
  unfold pO pc4
  apply sz_congr
  intro k hk
  rw [gB_at (by omega) (by omega)]
  apply tv_congr
  show _ ↔ σ.1 69 (120 * s + (d * 4 + k)) = n ∧ σ.1 71 (σ.1 66 (30 * s + d) * 4 + k) = g
  rw [show 4 * (30 * s + d) + (k : Int) = 120 * s + (d * 4 + k) by omega]
  exact and_comm
theorem pO_b {σ : ga_S} {x g n : Int} : 0 ≤ pO σ x g n ∧ pO σ x g n ≤ 4 := by
  have := sz_b (f := fun k => tv (gB σ (4 * x + k) = g ∧ σ.1 69 (4 * x + k) = n)) (fun _ => tv_le) (n := 4)
  exact this
theorem T_X11_isParallel (s a b : Int) (σ : ga_S) (h1 : s = 0 ∨ s = 1) (a1 : 0 ≤ a) (a2 : a < 30) (b1 : 0 ≤ b) (b2 : b < 30) (hk : ∀ x : Int, 0 ≤ x → x < 60 → 0 ≤ σ.1 66 x ∧ σ.1 66 x < 8) : ga_Mt 2 0 0 mX11_isParallel [Vr 63, Vi (30 * s + a), Vi (30 * s + b)] (HP σ) (gis (some (Vi (tv (parP (vP s σ) (σ.1 71) (vK s σ) a b)))) σ) ga_nox := by
  have hQ : (∀ k : Nat, k < 4 → (fun k : Nat => pO σ (30 * s + a) (gB σ (4 * (30 * s + a) + k)) (σ.1 69 (4 * (30 * s + a) + k)) = pO σ (30 * s + b) (gB σ (4 * (30 * s + a) + k)) (σ.1 69 (4 * (30 * s + a) + k))) k) ↔ parP (vP s σ) (σ.1 71) (vK s σ) a b := by
    unfold parP
    constructor
    · intro h k hk
      have := h k hk
      simp only [] at this
      rw [pO_v, pO_v, gB_at (by omega) (by omega), show 4 * (30 * s + a) + (k : Int) = 120 * s + (a * 4 + k) by omega] at this
      exact this
    · intro h k hk
      have := h k hk
      show pO σ (30 * s + a) _ _ = pO σ (30 * s + b) _ _
      rw [pO_v, pO_v, gB_at (by omega) (by omega), show 4 * (30 * s + a) + (k : Int) = 120 * s + (a * 4 + k) by omega]
      exact this
  rw [← tv_congr hQ]
  generalize hq : (fun k : Nat => pO σ (30 * s + a) (gB σ (4 * (30 * s + a) + k)) (σ.1 69 (4 * (30 * s + a) + k)) = pO σ (30 * s + b) (gB σ (4 * (30 * s + a) + k)) (σ.1 69 (4 * (30 * s + a) + k))) = Q
  refine ga_meth [some (Vr 63), some (Vi (30 * s + a)), some (Vi (30 * s + b)), none, none, none, none] rfl rfl (by decide +kernel) (Nat.le_of_ble_eq_true rfl) rfl ?_
  refine ga_iconst dX11_isParallel_0 ⟨by decide, by decide⟩ ?_
  refine ga_istore_n (lv2 := [_, _, _, _, _, _, _]) dX11_isParallel_1 (by decide) rfl rfl ?_
  refine ga_iconst dX11_isParallel_2 ⟨by decide, by decide⟩ ?_
  refine ga_istore (lv2 := [_, _, _, _, _, _, _]) dX11_isParallel_3 (by decide) rfl rfl ?_
  refine ga_eqlv (lv2 := [some (Vr 63), some (Vi (30 * s + a)), some (Vi (30 * s + b)), some (Vi (tv (∀ k : Nat, k < 0 → Q k))), some (Vi ((0 : Nat) : Int)), none, none]) (by rw [tv1 (fun k hk => by omega)]; rfl) ?_
  refine (ga_loop 4 (fun i => ∀ y z, ga_W 2 0 0 0 0 mX11_isParallel (gis (some (Vi (tv (∀ k : Nat, k < 4 → Q k)))) σ) ga_nox 5 [some (Vr 63), some (Vi (30 * s + a)), some (Vi (30 * s + b)), some (Vi (tv (∀ k : Nat, k < i → Q k))), some (Vi (i : Int)), y, z] [] (HP σ)) ?_ ?_ 0 (Nat.zero_le _) _ _ : _)
  · intro y z
    refine ga_iload dX11_isParallel_5 rfl ?_
    refine ga_iconst dX11_isParallel_7 ⟨by decide, by decide⟩ ?_
    refine ga_icmp_ge (tgt := 70) dX11_isParallel_8 rfl (fun c_8 => ?_) (fun c_8 => ?_)
    · refine ga_iload_n dX11_isParallel_70 rfl ?_
      refine ga_ret (v := some _) ?_ rfl (by decide) (by decide) ⟨dX11_isParallel_71, _, rfl, tv_nb⟩
      exact ⟨rfl, rfl⟩
    · omega
  · intro i hi k y z
    have TAIL : ∀ v y z : Int, v = tv (∀ k : Nat, k < i + 1 → Q k) → ga_W 2 0 0 0 0 mX11_isParallel (gis (some (Vi (tv (∀ k : Nat, k < 4 → Q k)))) σ) ga_nox 63 [some (Vr 63), some (Vi (30 * s + a)), some (Vi (30 * s + b)), some (Vi (tv (∀ k : Nat, k < i → Q k))), some (Vi (i : Int)), some (Vi y), some (Vi z)] [Vi v] (HP σ) := by
      intro v y z hv
      refine ga_istore_n (lv2 := [_, _, _, _, _, _, _]) dX11_isParallel_63 (by decide) rfl rfl ?_
      refine ga_iinc (z := ((i + 1 : Nat) : Int)) (lv2 := [_, _, _, _, _, _, _]) dX11_isParallel_64 (by decide) rfl rfl (by omega) (⟨by omega, by omega⟩) rfl ?_
      refine ga_goto (tgt := 5) dX11_isParallel_67 rfl ?_
      rw [hv]
      exact k _ _
    refine ga_iload dX11_isParallel_5 rfl ?_
    refine ga_iconst dX11_isParallel_7 ⟨by decide, by decide⟩ ?_
    refine ga_icmp_ge (tgt := 70) dX11_isParallel_8 rfl (fun c_8 => ?_) (fun c_8 => ?_)
    · omega
    · refine ga_aload_n dX11_isParallel_11 rfl ?_
      refine ga_iload_n dX11_isParallel_12 rfl ?_
      refine ga_iload dX11_isParallel_13 rfl ?_
      refine hc_V (T_X11_group (30 * s + a) i σ (by omega) (by omega) (by omega) (by omega) (hk _ (by omega) (by omega))) fX11_group rfl kX11_group lkX11_107 dX11_isParallel_15 rfl rfl rfl rfl rfl rfl rfl rfl ?_
      refine ga_istore (lv2 := [_, _, _, _, _, _, _]) dX11_isParallel_18 (by decide) rfl rfl ?_
      refine ga_aload_n dX11_isParallel_20 rfl ?_
      refine hg_getR grX11_27 dX11_isParallel_21 rfl rfl ?_
      refine ga_iconst dX11_isParallel_24 ⟨by decide, by decide⟩ ?_
      refine ga_iload_n dX11_isParallel_25 rfl ?_
      refine ga_imul dX11_isParallel_26 rfl (⟨by omega, by omega⟩) ?_
      refine ga_iload dX11_isParallel_27 rfl ?_
      refine ga_iadd (z := (4 * (30 * s + a) + (i : Int))) dX11_isParallel_29 (by omega) (⟨by omega, by omega⟩) ?_
      refine hg_iald dX11_isParallel_30 rfl (by omega) (by omega) ?_
      refine ga_istore (lv2 := [_, _, _, _, _, _, _]) dX11_isParallel_31 (by decide) rfl rfl ?_
      refine ga_iload_n dX11_isParallel_33 rfl ?_
      refine ga_if_eq (tgt := 62) dX11_isParallel_34 rfl (fun c_34 => ?_) (fun c_34 => ?_)
      · rw [tv_eq0] at c_34
        refine ga_iconst dX11_isParallel_62 ⟨by decide, by decide⟩ ?_
        exact TAIL 0 _ _ (tvz (fun z => c_34 (all_s.mp z).1)).symm
      · rw [tv_ne0] at c_34
        refine ga_aload_n dX11_isParallel_37 rfl ?_
        refine ga_iload_n dX11_isParallel_38 rfl ?_
        refine ga_iload dX11_isParallel_39 rfl ?_
        refine ga_iload dX11_isParallel_41 rfl ?_
        refine hc_V (T_X11_pinsOn (30 * s + a) _ _ σ (by omega) (by omega) (hk _ (by omega) (by omega))) fX11_pinsOn rfl kX11_pinsOn lkX11_111 dX11_isParallel_43 rfl rfl rfl rfl rfl rfl rfl rfl ?_
        refine ga_aload_n dX11_isParallel_46 rfl ?_
        refine ga_iload_n dX11_isParallel_47 rfl ?_
        refine ga_iload dX11_isParallel_48 rfl ?_
        refine ga_iload dX11_isParallel_50 rfl ?_
        refine hc_V (T_X11_pinsOn (30 * s + b) _ _ σ (by omega) (by omega) (hk _ (by omega) (by omega))) fX11_pinsOn rfl kX11_pinsOn lkX11_111 dX11_isParallel_52 rfl rfl rfl rfl rfl rfl rfl rfl ?_
        refine ga_icmp_ne (tgt := 62) dX11_isParallel_55 rfl (fun c_55 => ?_) (fun c_55 => ?_)
        · refine ga_iconst dX11_isParallel_62 ⟨by decide, by decide⟩ ?_
          exact TAIL 0 _ _ (tvz (fun z => c_55 (by have := (all_s.mp z).2; rw [← hq] at this; exact this))).symm
        · refine ga_iconst dX11_isParallel_58 ⟨by decide, by decide⟩ ?_
          refine ga_goto (tgt := 63) dX11_isParallel_59 rfl ?_
          exact TAIL 1 _ _ (tv1 (all_s.mpr ⟨c_34, by rw [← hq]; exact c_55⟩)).symm
theorem T_X11_isChain (s a : Int) (σ : ga_S) (h1 : s = 0 ∨ s = 1) (a1 : 0 ≤ a) (a2 : a < 30) (hk : 0 ≤ σ.1 66 (30 * s + a) ∧ σ.1 66 (30 * s + a) < 8) : ga_Mt 1 0 0 mX11_isChain [Vr 63, Vi (30 * s + a)] (HP σ) (gis (some (Vi (tv (twoP (vP s σ) (σ.1 71) (vK s σ) a)))) σ) ga_nox := by
  unfold twoP
  have g0 : gB σ (4 * (30 * s + a) + 0) = σ.1 71 (vK s σ a * 4 + 0) := gB_at (by omega) (by omega)
  have g1 : gB σ (4 * (30 * s + a) + 1) = σ.1 71 (vK s σ a * 4 + 1) := gB_at (by omega) (by omega)
  have p : ∀ k : Int, vP s σ (a * 4 + k) = σ.1 69 (120 * s + (a * 4 + k)) := fun _ => rfl
  rw [← g0, ← g1, p, p, p, p]
  refine ga_meth [some (Vr 63), some (Vi (30 * s + a)), none] rfl rfl (by decide +kernel) (Nat.le_of_ble_eq_true rfl) rfl ?_
  refine ga_iconst dX11_isChain_0 ⟨by decide, by decide⟩ ?_
  refine ga_iload_n dX11_isChain_1 rfl ?_
  refine ga_imul (z := (120 * s + (a * 4 + 0))) dX11_isChain_2 (by omega) (⟨by omega, by omega⟩) ?_
  refine ga_istore_n (lv2 := [_, _, _]) dX11_isChain_3 (by decide) rfl rfl ?_
  refine ga_aload_n dX11_isChain_4 rfl ?_
  refine hg_getR grX11_27 dX11_isChain_5 rfl rfl ?_
  refine ga_iload_n dX11_isChain_8 rfl ?_
  refine hg_iald dX11_isChain_9 rfl (by omega) (by omega) ?_
  refine ga_iconst dX11_isChain_10 ⟨by decide, by decide⟩ ?_
  refine ga_icmp_eq (tgt := 69) dX11_isChain_11 rfl (fun c_11 => ?_) (fun c_11 => ?_)
  · refine ga_iconst dX11_isChain_69 ⟨by decide, by decide⟩ ?_
    refine ga_ret (v := some _) ?_ rfl (by decide) (by decide) ⟨dX11_isChain_70, _, rfl, rfl⟩
    exact ⟨tvf (fun z => z.1 c_11), rfl⟩
  · refine ga_aload_n dX11_isChain_14 rfl ?_
    refine hg_getR grX11_27 dX11_isChain_15 rfl rfl ?_
    refine ga_iload_n dX11_isChain_18 rfl ?_
    refine ga_iconst dX11_isChain_19 ⟨by decide, by decide⟩ ?_
    refine ga_iadd (z := (120 * s + (a * 4 + 1))) dX11_isChain_20 (by omega) (⟨by omega, by omega⟩) ?_
    refine hg_iald dX11_isChain_21 rfl (by omega) (by omega) ?_
    refine ga_iconst dX11_isChain_22 ⟨by decide, by decide⟩ ?_
    refine ga_icmp_eq (tgt := 69) dX11_isChain_23 rfl (fun c_23 => ?_) (fun c_23 => ?_)
    · refine ga_iconst dX11_isChain_69 ⟨by decide, by decide⟩ ?_
      refine ga_ret (v := some _) ?_ rfl (by decide) (by decide) ⟨dX11_isChain_70, _, rfl, rfl⟩
      exact ⟨tvf (fun z => z.2.1 c_23), rfl⟩
    · refine ga_aload_n dX11_isChain_26 rfl ?_
      refine ga_iload_n dX11_isChain_27 rfl ?_
      refine ga_iconst dX11_isChain_28 ⟨by decide, by decide⟩ ?_
      refine hc_V (T_X11_group (30 * s + a) 0 σ (by omega) (by omega) (by omega) (by omega) hk) fX11_group rfl kX11_group lkX11_107 dX11_isChain_29 rfl rfl rfl rfl rfl rfl rfl rfl ?_
      refine ga_aload_n dX11_isChain_32 rfl ?_
      refine ga_iload_n dX11_isChain_33 rfl ?_
      refine ga_iconst dX11_isChain_34 ⟨by decide, by decide⟩ ?_
      refine hc_V (T_X11_group (30 * s + a) 1 σ (by omega) (by omega) (by omega) (by omega) hk) fX11_group rfl kX11_group lkX11_107 dX11_isChain_35 rfl rfl rfl rfl rfl rfl rfl rfl ?_
      refine ga_icmp_ne (tgt := 69) dX11_isChain_38 rfl (fun c_38 => ?_) (fun c_38 => ?_)
      · refine ga_iconst dX11_isChain_69 ⟨by decide, by decide⟩ ?_
        refine ga_ret (v := some _) ?_ rfl (by decide) (by decide) ⟨dX11_isChain_70, _, rfl, rfl⟩
        exact ⟨tvf (fun z => c_38 z.2.2.2.2), rfl⟩
      · refine ga_aload_n dX11_isChain_41 rfl ?_
        refine hg_getR grX11_27 dX11_isChain_42 rfl rfl ?_
        refine ga_iload_n dX11_isChain_45 rfl ?_
        refine ga_iconst dX11_isChain_46 ⟨by decide, by decide⟩ ?_
        refine ga_iadd (z := (120 * s + (a * 4 + 2))) dX11_isChain_47 (by omega) (⟨by omega, by omega⟩) ?_
        refine hg_iald dX11_isChain_48 rfl (by omega) (by omega) ?_
        refine ga_iconst dX11_isChain_49 ⟨by decide, by decide⟩ ?_
        refine ga_icmp_ne (tgt := 69) dX11_isChain_50 rfl (fun c_50 => ?_) (fun c_50 => ?_)
        · refine ga_iconst dX11_isChain_69 ⟨by decide, by decide⟩ ?_
          refine ga_ret (v := some _) ?_ rfl (by decide) (by decide) ⟨dX11_isChain_70, _, rfl, rfl⟩
          exact ⟨tvf (fun z => c_50 z.2.2.1), rfl⟩
        · refine ga_aload_n dX11_isChain_53 rfl ?_
          refine hg_getR grX11_27 dX11_isChain_54 rfl rfl ?_
          refine ga_iload_n dX11_isChain_57 rfl ?_
          refine ga_iconst dX11_isChain_58 ⟨by decide, by decide⟩ ?_
          refine ga_iadd (z := (120 * s + (a * 4 + 3))) dX11_isChain_59 (by omega) (⟨by omega, by omega⟩) ?_
          refine hg_iald dX11_isChain_60 rfl (by omega) (by omega) ?_
          refine ga_iconst dX11_isChain_61 ⟨by decide, by decide⟩ ?_
          refine ga_icmp_ne (tgt := 69) dX11_isChain_62 rfl (fun c_62 => ?_) (fun c_62 => ?_)
          · refine ga_iconst dX11_isChain_69 ⟨by decide, by decide⟩ ?_
            refine ga_ret (v := some _) ?_ rfl (by decide) (by decide) ⟨dX11_isChain_70, _, rfl, rfl⟩
            exact ⟨tvf (fun z => c_62 z.2.2.2.1), rfl⟩
          · refine ga_iconst dX11_isChain_65 ⟨by decide, by decide⟩ ?_
            refine ga_goto (tgt := 70) dX11_isChain_66 rfl ?_
            refine ga_ret (v := some _) ?_ rfl (by decide) (by decide) ⟨dX11_isChain_70, _, rfl, rfl⟩
            exact ⟨tvt ⟨c_11, c_23, c_50, c_62, c_38⟩, rfl⟩
def coC (s a b : Int) (σ : ga_S) (n : Int) : Prop := tv (vP s σ (a * 4 + 0) = n) + tv (vP s σ (a * 4 + 1) = n) = 1 ∧ tv (vP s σ (b * 4 + 0) = n) + tv (vP s σ (b * 4 + 1) = n) = 1 ∧ vT s σ n = -1 ∧ allB σ s n = 2
noncomputable def coF (s a b : Int) (σ : ga_S) (N : Nat) : Int := tif (twoP (vP s σ) (σ.1 71) (vK s σ) a ∧ twoP (vP s σ) (σ.1 71) (vK s σ) b) (lstF (coC s a b σ) N) (-1)
theorem T_X11_common (s a b : Int) (σ : ga_S) (D N : Nat) (h1 : s = 0 ∨ s = 1) (hD : σ.1 70 s = D) (hD2 : D ≤ 30) (hNN : σ.1 65 s = N) (hN2 : N ≤ 40) (a1 : 0 ≤ a) (a2 : a < 30) (b1 : 0 ≤ b) (b2 : b < 30) (hk : ∀ x : Int, 0 ≤ x → x < 60 → 0 ≤ σ.1 66 x ∧ σ.1 66 x < 8) : ga_Mt 2 0 0 mX11_common [Vr 63, Vi s, Vi (30 * s + a), Vi (30 * s + b)] (HP σ) (gis (some (Vi (coF s a b σ N))) σ) ga_nox := by
  refine ga_meth [some (Vr 63), some (Vi s), some (Vi (30 * s + a)), some (Vi (30 * s + b)), none, none, none] rfl rfl (by decide +kernel) (Nat.le_of_ble_eq_true rfl) rfl ?_
  refine ga_aload_n dX11_common_0 rfl ?_
  refine ga_iload_n dX11_common_1 rfl ?_
  refine hc_V (T_X11_isChain s a σ h1 a1 a2 (hk _ (by omega) (by omega))) fX11_isChain rfl kX11_isChain lkX11_115 dX11_common_2 rfl rfl rfl rfl rfl rfl rfl rfl ?_
  refine ga_if_eq (tgt := 16) dX11_common_5 rfl (fun c_5 => ?_) (fun c_5 => ?_)
  · rw [tv_eq0] at c_5
    unfold coF
    rw [tif0 (fun z => c_5 z.1)]
    refine ga_iconst dX11_common_16 ⟨by decide, by decide⟩ ?_
    refine ga_ret (v := some _) ?_ rfl (by decide) (by decide) ⟨dX11_common_17, _, rfl, rfl⟩
    exact ⟨rfl, rfl⟩
  rw [tv_ne0] at c_5
  refine ga_aload_n dX11_common_8 rfl ?_
  refine ga_iload_n dX11_common_9 rfl ?_
  refine hc_V (T_X11_isChain s b σ h1 b1 b2 (hk _ (by omega) (by omega))) fX11_isChain rfl kX11_isChain lkX11_115 dX11_common_10 rfl rfl rfl rfl rfl rfl rfl rfl ?_
  refine ga_if_ne (tgt := 18) dX11_common_13 rfl (fun c_13 => ?_) (fun c_13 => ?_)
  rotate_left
  · rw [tv_eq0] at c_13
    unfold coF
    rw [tif0 (fun z => c_13 z.2)]
    refine ga_iconst dX11_common_16 ⟨by decide, by decide⟩ ?_
    refine ga_ret (v := some _) ?_ rfl (by decide) (by decide) ⟨dX11_common_17, _, rfl, rfl⟩
    exact ⟨rfl, rfl⟩
  rw [tv_ne0] at c_13
  have e : coF s a b σ N = lstF (coC s a b σ) N := tif1 ⟨c_5, c_13⟩
  rw [e]
  refine ga_iconst dX11_common_18 ⟨by decide, by decide⟩ ?_
  refine ga_istore (lv2 := [_, _, _, _, _, _, _]) dX11_common_19 (by decide) rfl rfl ?_
  refine (ga_loop N (fun i => (∀ j : Int, 0 ≤ j → j < i → ¬ coC s a b σ j) → ∀ y z, ga_W 2 0 0 0 0 mX11_common (gis (some (Vi (lstF (coC s a b σ) N))) σ) ga_nox 21 [some (Vr 63), some (Vi s), some (Vi (30 * s + a)), some (Vi (30 * s + b)), some (Vi (i : Int)), y, z] [] (HP σ)) ?_ ?_ 0 (Nat.zero_le _) (fun j z1 z2 => by omega) _ _ : _)
  · intro hno y z
    have el : lstF (coC s a b σ) N = -1 := by
      rcases lstF_is (coC s a b σ) N with q | q
      · exact q.1
      · exact absurd q.2.2.1 (hno _ q.1 q.2.1)
    rw [el]
    refine ga_iload dX11_common_21 rfl ?_
    refine ga_aload_n dX11_common_23 rfl ?_
    refine hg_getR grX11_13 dX11_common_24 rfl rfl ?_
    refine ga_iload_n dX11_common_27 rfl ?_
    refine hg_iald dX11_common_28 rfl (by omega) (by omega) ?_
    refine ga_icmp_ge (tgt := 162) dX11_common_29 rfl (fun c_29 => ?_) (fun c_29 => ?_)
    · refine ga_iconst dX11_common_162 ⟨by decide, by decide⟩ ?_
      refine ga_ret (v := some _) ?_ rfl (by decide) (by decide) ⟨dX11_common_163, _, rfl, rfl⟩
      exact ⟨rfl, rfl⟩
    · omega
  · intro i hi k hno y z
    have NO : ¬ coC s a b σ i → ∀ y z, ga_W 2 0 0 0 0 mX11_common (gis (some (Vi (lstF (coC s a b σ) N))) σ) ga_nox 156 [some (Vr 63), some (Vi s), some (Vi (30 * s + a)), some (Vi (30 * s + b)), some (Vi (i : Int)), y, z] [] (HP σ) := by
      intro hn y z
      refine ga_iinc (z := ((i + 1 : Nat) : Int)) (lv2 := [_, _, _, _, _, _, _]) dX11_common_156 (by decide) rfl rfl (by omega) (⟨by omega, by omega⟩) rfl ?_
      refine ga_goto (tgt := 21) dX11_common_159 rfl ?_
      refine k (fun j z1 z2 => ?_) _ _
      by_cases q : j = i
      · rw [q]; exact hn
      · exact hno j z1 (by omega)
    have R111 : ∀ (v w : Int) (z : Option ga_V), v = tv (vP s σ (b * 4 + 0) = i) → w = tv (vP s σ (b * 4 + 1) = i) → ga_W 2 0 0 0 0 mX11_common (gis (some (Vi (lstF (coC s a b σ) N))) σ) ga_nox 111 [some (Vr 63), some (Vi s), some (Vi (30 * s + a)), some (Vi (30 * s + b)), some (Vi (i : Int)), some (Vi (tv (vP s σ (a * 4 + 0) = i) + tv (vP s σ (a * 4 + 1) = i))), z] [Vi w, Vi v] (HP σ) := by
      intro v w z hv hw
      have q1 := tv_le (p := vP s σ (b * 4 + 0) = i)
      have q2 := tv_le (p := vP s σ (b * 4 + 1) = i)
      rw [hv, hw]
      refine ga_iadd dX11_common_111 rfl (⟨by omega, by omega⟩) ?_
      refine ga_istore (lv2 := [_, _, _, _, _, _, _]) dX11_common_112 (by decide) rfl rfl ?_
      refine ga_iload dX11_common_114 rfl ?_
      refine ga_iconst dX11_common_116 ⟨by decide, by decide⟩ ?_
      refine ga_icmp_ne (tgt := 156) dX11_common_117 rfl (fun c_117 => ?_) (fun c_117 => ?_)
      · exact NO (fun q => c_117 q.1) _ _
      · refine ga_iload dX11_common_120 rfl ?_
        refine ga_iconst dX11_common_122 ⟨by decide, by decide⟩ ?_
        refine ga_icmp_ne (tgt := 156) dX11_common_123 rfl (fun c_123 => ?_) (fun c_123 => ?_)
        · exact NO (fun q => c_123 q.2.1) _ _
        · refine ga_aload_n dX11_common_126 rfl ?_
          refine hg_getR grX11_7 dX11_common_127 rfl rfl ?_
          refine ga_bipush dX11_common_130 ⟨by decide, by decide⟩ (by decide) ?_
          refine ga_iload_n dX11_common_132 rfl ?_
          refine ga_imul dX11_common_133 rfl (⟨by omega, by omega⟩) ?_
          refine ga_iload dX11_common_134 rfl ?_
          refine ga_iadd (z := (40 * s + (i : Int))) dX11_common_136 (by omega) (⟨by omega, by omega⟩) ?_
          refine hg_iald dX11_common_137 rfl (by omega) (by omega) ?_
          refine ga_iconst dX11_common_138 ⟨by decide, by decide⟩ ?_
          refine ga_icmp_ne (tgt := 156) dX11_common_139 rfl (fun c_139 => ?_) (fun c_139 => ?_)
          · exact NO (fun q => c_139 q.2.2.1) _ _
          · refine ga_aload_n dX11_common_142 rfl ?_
            refine ga_iload_n dX11_common_143 rfl ?_
            refine ga_iload dX11_common_144 rfl ?_
            refine hc_V (T_X11_all s i σ D h1 hD hD2) fX11_all rfl kX11_all lkX11_118 dX11_common_146 rfl rfl rfl rfl rfl rfl rfl rfl ?_
            refine ga_iconst dX11_common_149 ⟨by decide, by decide⟩ ?_
            refine ga_icmp_ne (tgt := 156) dX11_common_150 rfl (fun c_150 => ?_) (fun c_150 => ?_)
            · exact NO (fun q => c_150 q.2.2.2) _ _
            · have el : lstF (coC s a b σ) N = i := lstF_one (by omega) (by omega) ⟨c_117, c_123, c_139, c_150⟩ hno
              refine ga_iload dX11_common_153 rfl ?_
              refine ga_ret (v := some _) ?_ rfl (by decide) (by decide) ⟨dX11_common_155, _, rfl, rfl⟩
              exact ⟨by rw [el], rfl⟩
    have R91 : ∀ (v : Int) (z : Option ga_V), v = tv (vP s σ (b * 4 + 0) = i) → ga_W 2 0 0 0 0 mX11_common (gis (some (Vi (lstF (coC s a b σ) N))) σ) ga_nox 91 [some (Vr 63), some (Vi s), some (Vi (30 * s + a)), some (Vi (30 * s + b)), some (Vi (i : Int)), some (Vi (tv (vP s σ (a * 4 + 0) = i) + tv (vP s σ (a * 4 + 1) = i))), z] [Vi v] (HP σ) := by
      intro v z hv
      refine ga_aload_n dX11_common_91 rfl ?_
      refine hg_getR grX11_27 dX11_common_92 rfl rfl ?_
      refine ga_iconst dX11_common_95 ⟨by decide, by decide⟩ ?_
      refine ga_iload_n dX11_common_96 rfl ?_
      refine ga_imul dX11_common_97 rfl (⟨by omega, by omega⟩) ?_
      refine ga_iconst dX11_common_98 ⟨by decide, by decide⟩ ?_
      refine ga_iadd (z := (120 * s + (b * 4 + 1))) dX11_common_99 (by omega) (⟨by omega, by omega⟩) ?_
      refine hg_iald dX11_common_100 rfl (by omega) (by omega) ?_
      refine ga_iload dX11_common_101 rfl ?_
      refine ga_icmp_ne (tgt := 110) dX11_common_103 rfl (fun c_103 => ?_) (fun c_103 => ?_)
      · refine ga_iconst dX11_common_110 ⟨by decide, by decide⟩ ?_
        exact R111 v 0 _ hv (tvz c_103).symm
      · refine ga_iconst dX11_common_106 ⟨by decide, by decide⟩ ?_
        refine ga_goto (tgt := 111) dX11_common_107 rfl ?_
        exact R111 v 1 _ hv (tv1 c_103).symm
    have R70 : ∀ (v w : Int) (y z : Option ga_V), v = tv (vP s σ (a * 4 + 0) = i) → w = tv (vP s σ (a * 4 + 1) = i) → ga_W 2 0 0 0 0 mX11_common (gis (some (Vi (lstF (coC s a b σ) N))) σ) ga_nox 70 [some (Vr 63), some (Vi s), some (Vi (30 * s + a)), some (Vi (30 * s + b)), some (Vi (i : Int)), y, z] [Vi w, Vi v] (HP σ) := by
      intro v w y z hv hw
      have q1 := tv_le (p := vP s σ (a * 4 + 0) = i)
      have q2 := tv_le (p := vP s σ (a * 4 + 1) = i)
      rw [hv, hw]
      refine ga_iadd dX11_common_70 rfl (⟨by omega, by omega⟩) ?_
      refine ga_istore (lv2 := [_, _, _, _, _, _, _]) dX11_common_71 (by decide) rfl rfl ?_
      refine ga_aload_n dX11_common_73 rfl ?_
      refine hg_getR grX11_27 dX11_common_74 rfl rfl ?_
      refine ga_iconst dX11_common_77 ⟨by decide, by decide⟩ ?_
      refine ga_iload_n dX11_common_78 rfl ?_
      refine ga_imul (z := (120 * s + (b * 4 + 0))) dX11_common_79 (by omega) (⟨by omega, by omega⟩) ?_
      refine hg_iald dX11_common_80 rfl (by omega) (by omega) ?_
      refine ga_iload dX11_common_81 rfl ?_
      refine ga_icmp_ne (tgt := 90) dX11_common_83 rfl (fun c_83 => ?_) (fun c_83 => ?_)
      · refine ga_iconst dX11_common_90 ⟨by decide, by decide⟩ ?_
        exact R91 0 _ (tvz c_83).symm
      · refine ga_iconst dX11_common_86 ⟨by decide, by decide⟩ ?_
        refine ga_goto (tgt := 91) dX11_common_87 rfl ?_
        exact R91 1 _ (tv1 c_83).symm
    have R50 : ∀ (v : Int) (y z : Option ga_V), v = tv (vP s σ (a * 4 + 0) = i) → ga_W 2 0 0 0 0 mX11_common (gis (some (Vi (lstF (coC s a b σ) N))) σ) ga_nox 50 [some (Vr 63), some (Vi s), some (Vi (30 * s + a)), some (Vi (30 * s + b)), some (Vi (i : Int)), y, z] [Vi v] (HP σ) := by
      intro v y z hv
      refine ga_aload_n dX11_common_50 rfl ?_
      refine hg_getR grX11_27 dX11_common_51 rfl rfl ?_
      refine ga_iconst dX11_common_54 ⟨by decide, by decide⟩ ?_
      refine ga_iload_n dX11_common_55 rfl ?_
      refine ga_imul dX11_common_56 rfl (⟨by omega, by omega⟩) ?_
      refine ga_iconst dX11_common_57 ⟨by decide, by decide⟩ ?_
      refine ga_iadd (z := (120 * s + (a * 4 + 1))) dX11_common_58 (by omega) (⟨by omega, by omega⟩) ?_
      refine hg_iald dX11_common_59 rfl (by omega) (by omega) ?_
      refine ga_iload dX11_common_60 rfl ?_
      refine ga_icmp_ne (tgt := 69) dX11_common_62 rfl (fun c_62 => ?_) (fun c_62 => ?_)
      · refine ga_iconst dX11_common_69 ⟨by decide, by decide⟩ ?_
        exact R70 v 0 _ _ hv (tvz c_62).symm
      · refine ga_iconst dX11_common_65 ⟨by decide, by decide⟩ ?_
        refine ga_goto (tgt := 70) dX11_common_66 rfl ?_
        exact R70 v 1 _ _ hv (tv1 c_62).symm
    refine ga_iload dX11_common_21 rfl ?_
    refine ga_aload_n dX11_common_23 rfl ?_
    refine hg_getR grX11_13 dX11_common_24 rfl rfl ?_
    refine ga_iload_n dX11_common_27 rfl ?_
    refine hg_iald dX11_common_28 rfl (by omega) (by omega) ?_
    refine ga_icmp_ge (tgt := 162) dX11_common_29 rfl (fun c_29 => ?_) (fun c_29 => ?_)
    · omega
    · refine ga_aload_n dX11_common_32 rfl ?_
      refine hg_getR grX11_27 dX11_common_33 rfl rfl ?_
      refine ga_iconst dX11_common_36 ⟨by decide, by decide⟩ ?_
      refine ga_iload_n dX11_common_37 rfl ?_
      refine ga_imul (z := (120 * s + (a * 4 + 0))) dX11_common_38 (by omega) (⟨by omega, by omega⟩) ?_
      refine hg_iald dX11_common_39 rfl (by omega) (by omega) ?_
      refine ga_iload dX11_common_40 rfl ?_
      refine ga_icmp_ne (tgt := 49) dX11_common_42 rfl (fun c_42 => ?_) (fun c_42 => ?_)
      · refine ga_iconst dX11_common_49 ⟨by decide, by decide⟩ ?_
        exact R50 0 _ _ (tvz c_42).symm
      · refine ga_iconst dX11_common_45 ⟨by decide, by decide⟩ ?_
        refine ga_goto (tgt := 50) dX11_common_46 rfl ?_
        exact R50 1 _ _ (tv1 c_42).symm
