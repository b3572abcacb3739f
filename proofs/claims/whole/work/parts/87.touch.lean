-- the reference: touch, isAgreed, isFree, isNamed
noncomputable def hrn (σ : ga_S) (x n : Int) : Nat → Int
  | 0 => 0
  | g + 1 => 5 * hrn σ x n g + pO σ x g n
theorem hrn_s (σ : ga_S) (x n : Int) (g : Nat) : hrn σ x n (g + 1) = 5 * hrn σ x n g + pO σ x g n := rfl
theorem hrn_b (σ : ga_S) (x n : Int) {g : Nat} (h : g ≤ 4) : 0 ≤ hrn σ x n g ∧ hrn σ x n g < 625 := by
  have p := fun g : Int => pO_b (σ := σ) (x := x) (g := g) (n := n)
  have p0 := p ((0 : Nat) : Int)
  have p1 := p ((1 : Nat) : Int)
  have p2 := p ((2 : Nat) : Int)
  have p3 := p ((3 : Nat) : Int)
  rcases (show g = 0 ∨ g = 1 ∨ g = 2 ∨ g = 3 ∨ g = 4 by omega) with q | q | q | q | q <;> subst q
  · exact ⟨Int.le_refl _, by show (0 : Int) < 625; decide⟩
  · rw [hrn_s]; simp only [hrn]; omega
  · rw [hrn_s, hrn_s]; simp only [hrn]; omega
  · rw [hrn_s, hrn_s, hrn_s]; simp only [hrn]; omega
  · rw [hrn_s, hrn_s, hrn_s, hrn_s]; simp only [hrn]; omega
theorem sz4 (f : Int → Int) : sz f 4 = f 0 + f 1 + f 2 + f 3 := by
  show 0 + f ((0 : Nat) : Int) + f ((1 : Nat) : Int) + f ((2 : Nat) : Int) + f ((3 : Nat) : Int) = _
  rw [Int.zero_add]
  rfl
theorem pw_one {P : Prop} {g : Int} (h : 0 ≤ g ∧ g < 4) : tv P * pw8 g = tv (g = 0 ∧ P) + 8 * tv (g = 1 ∧ P) + 64 * tv (g = 2 ∧ P) + 512 * tv (g = 3 ∧ P) := by
  have z : ∀ k : Int, g ≠ k → tv (g = k ∧ P) = 0 := fun k hk => tvz (fun w => hk w.1)
  have o : ∀ k : Int, g = k → tv (g = k ∧ P) = tv P := fun k hk => tv_congr ⟨fun w => w.2, fun w => ⟨hk, w⟩⟩
  rcases (show g = 0 ∨ g = 1 ∨ g = 2 ∨ g = 3 by omega) with q | q | q | q
  · rw [o 0 q, z 1 (by omega), z 2 (by omega), z 3 (by omega), q, show pw8 0 = 1 from rfl]; omega
  · rw [z 0 (by omega), o 1 q, z 2 (by omega), z 3 (by omega), q, show pw8 1 = 8 from rfl]; omega
  · rw [z 0 (by omega), z 1 (by omega), o 2 q, z 3 (by omega), q, show pw8 2 = 64 from rfl]; omega
  · rw [z 0 (by omega), z 1 (by omega), z 2 (by omega), o 3 q, q, show pw8 3 = 512 from rfl]; omega
theorem kV_pO {β : ga_S} {x n : Int} (hg : ∀ k : Int, 0 ≤ k → k < 4 → 0 ≤ gB β (4 * x + k) ∧ gB β (4 * x + k) < 4) : kV β x n = pO β x 0 n + 8 * pO β x 1 n + 64 * pO β x 2 n + 512 * pO β x 3 n := by
  unfold kV pO
  rw [sz4, sz4, sz4, sz4, sz4, pw_one (hg 0 (by omega) (by omega)), pw_one (hg 1 (by omega) (by omega)), pw_one (hg 2 (by omega) (by omega)), pw_one (hg 3 (by omega) (by omega))]
  omega
theorem hrn_4 (σ : ga_S) (x n : Int) : hrn σ x n 4 = 125 * pO σ x 0 n + 25 * pO σ x 1 n + 5 * pO σ x 2 n + pO σ x 3 n := by
  rw [hrn_s, hrn_s, hrn_s, hrn_s, show ((0 : Nat) : Int) = 0 from rfl, show ((1 : Nat) : Int) = 1 from rfl, show ((2 : Nat) : Int) = 2 from rfl, show ((3 : Nat) : Int) = 3 from rfl]
  simp only [hrn]
  omega
theorem tc_kV {β : ga_S} {x y n m : Int} (hx : ∀ k : Int, 0 ≤ k → k < 4 → 0 ≤ gB β (4 * x + k) ∧ gB β (4 * x + k) < 4) (hy : ∀ k : Int, 0 ≤ k → k < 4 → 0 ≤ gB β (4 * y + k) ∧ gB β (4 * y + k) < 4) : hrn β x n 4 = hrn β y m 4 ↔ kV β x n = kV β y m := by
  rw [hrn_4, hrn_4, kV_pO hx, kV_pO hy]
  have a0 := pO_b (σ := β) (x := x) (g := 0) (n := n)
  have a1 := pO_b (σ := β) (x := x) (g := 1) (n := n)
  have a2 := pO_b (σ := β) (x := x) (g := 2) (n := n)
  have a3 := pO_b (σ := β) (x := x) (g := 3) (n := n)
  have b0 := pO_b (σ := β) (x := y) (g := 0) (n := m)
  have b1 := pO_b (σ := β) (x := y) (g := 1) (n := m)
  have b2 := pO_b (σ := β) (x := y) (g := 2) (n := m)
  have b3 := pO_b (σ := β) (x := y) (g := 3) (n := m)
  constructor <;> intro h <;> omega
theorem T_X11_touch (x n : Int) (σ : ga_S) (h1 : 0 ≤ x) (h2 : x < 60) (hk : 0 ≤ σ.1 66 x ∧ σ.1 66 x < 8) : ga_Mt 2 0 0 mX11_touch [Vr 63, Vi x, Vi n] (HP σ) (gis (some (Vi (hrn σ x n 4))) σ) ga_nox := by
  refine ga_meth [some (Vr 63), some (Vi x), some (Vi n), none, none] rfl rfl (by decide +kernel) (Nat.le_of_ble_eq_true rfl) rfl ?_
  refine ga_iconst dX11_touch_0 ⟨by decide, by decide⟩ ?_
  refine ga_istore_n (lv2 := [_, _, _, _, _]) dX11_touch_1 (by decide) rfl rfl ?_
  refine ga_iconst dX11_touch_2 ⟨by decide, by decide⟩ ?_
  refine ga_istore (lv2 := [_, _, _, _, _]) dX11_touch_3 (by decide) rfl rfl ?_
  refine (ga_loop 4 (fun i => ga_W 2 0 0 0 0 mX11_touch (gis (some (Vi (hrn σ x n 4))) σ) ga_nox 5 [some (Vr 63), some (Vi x), some (Vi n), some (Vi (hrn σ x n i)), some (Vi (i : Int))] [] (HP σ)) ?_ ?_ 0 (Nat.zero_le _) : _)
  · refine ga_iload dX11_touch_5 rfl ?_
    refine ga_iconst dX11_touch_7 ⟨by decide, by decide⟩ ?_
    refine ga_icmp_ge (tgt := 30) dX11_touch_8 rfl (fun c_8 => ?_) (fun c_8 => ?_)
    · refine ga_iload_n dX11_touch_30 rfl ?_
      refine ga_ret (v := some _) ?_ rfl (by decide) (by decide) ⟨dX11_touch_31, _, rfl, rfl⟩
      exact ⟨rfl, rfl⟩
    · omega
  · intro i hi k
    have hb := hrn_b σ x n (g := i) (by omega)
    have pb := pO_b (σ := σ) (x := x) (g := i) (n := n)
    rw [hrn_s] at k
    refine ga_iload dX11_touch_5 rfl ?_
    refine ga_iconst dX11_touch_7 ⟨by decide, by decide⟩ ?_
    refine ga_icmp_ge (tgt := 30) dX11_touch_8 rfl (fun c_8 => ?_) (fun c_8 => ?_)
    · omega
    · refine ga_iconst dX11_touch_11 ⟨by decide, by decide⟩ ?_
      refine ga_iload_n dX11_touch_12 rfl ?_
      refine ga_imul dX11_touch_13 rfl (⟨by omega, by omega⟩) ?_
      refine ga_aload_n dX11_touch_14 rfl ?_
      refine ga_iload_n dX11_touch_15 rfl ?_
      refine ga_iload dX11_touch_16 rfl ?_
      refine ga_iload_n dX11_touch_18 rfl ?_
      refine hc_V (T_X11_pinsOn x i n σ h1 h2 hk) fX11_pinsOn rfl kX11_pinsOn lkX11_111 dX11_touch_19 rfl rfl rfl rfl rfl rfl rfl rfl ?_
      refine ga_iadd dX11_touch_22 rfl (⟨by omega, by omega⟩) ?_
      refine ga_istore_n (lv2 := [_, _, _, _, _]) dX11_touch_23 (by decide) rfl rfl ?_
      refine ga_iinc (z := ((i + 1 : Nat) : Int)) (lv2 := [_, _, _, _, _]) dX11_touch_24 (by decide) rfl rfl (by omega) (⟨by omega, by omega⟩) rfl ?_
      refine ga_goto (tgt := 5) dX11_touch_27 rfl ?_
      exact k
theorem sgr_le {x y : UInt64} (hx : SzG x) (hy : SzG y) (h : dcl x y ≤ 0) : sgr x y = y ∧ sls x y = x := by
  unfold sgr sls
  by_cases q : dcl x y < 0
  · rw [if_pos q, if_pos q]; exact ⟨rfl, rfl⟩
  · rw [if_neg q, if_neg q]
    have e : dcl x y = 0 := by omega
    have := UInt64.toNat_inj.mp ((dcl_iff hx hy).2.1.mp e)
    rw [this]
    exact ⟨rfl, rfl⟩
theorem sgr_gt {x y : UInt64} (h : ¬ dcl x y ≤ 0) : sgr x y = x ∧ sls x y = y := by
  unfold sgr sls
  rw [if_neg (by omega), if_neg (by omega)]
  exact ⟨rfl, rfl⟩
theorem T_X11_isAgreed (a b : Int) (σ : ga_S) (a1 : 0 ≤ a) (a2 : a < 60) (b1 : 0 ≤ b) (b2 : b < 60) (hk : 0 ≤ σ.1 66 a ∧ σ.1 66 a < 8) (za : SzG (σ.2 67 a)) (zb : SzG (σ.2 67 b)) (hf : vf_n64 (FP.dsub (sgr (σ.2 67 a) (σ.2 67 b)) (sls (σ.2 67 a) (σ.2 67 b))) ∧ vf_n64 (FP.dmul (σ.2 72 (σ.1 66 a)) (sgr (σ.2 67 a) (σ.2 67 b)))) : ga_Mt 0 0 0 mX11_isAgreed [Vr 63, Vi a, Vi b] (HP σ) (gis (some (Vi (tv (agP σ a b)))) σ) ga_nox := by
  refine ga_meth [some (Vr 63), some (Vi a), some (Vi b), none, none, none, none, none, none, none, none] rfl rfl (by decide +kernel) (Nat.le_of_ble_eq_true rfl) rfl ?_
  have T48 : ∀ m f : UInt64, m = sgr (σ.2 67 a) (σ.2 67 b) → f = FP.dsub (sgr (σ.2 67 a) (σ.2 67 b)) (sls (σ.2 67 a) (σ.2 67 b)) → ∀ u w : UInt64, ga_W 0 0 0 0 0 mX11_isAgreed (gis (some (Vi (tv (agP σ a b)))) σ) ga_nox 48 [some (Vr 63), some (Vi a), some (Vi b), some (Vd u), none, some (Vd w), none, some (Vd m), none, none, none] [Vd f] (HP σ) := by
    intro m f hm hf2 u w
    subst hm
    subst hf2
    refine ga_dstore (lv2 := [_, _, _, _, _, _, _, _, _, _, _]) dX11_isAgreed_48 (by decide) rfl rfl ?_
    refine ga_dload dX11_isAgreed_50 rfl ?_
    refine ga_aload_n dX11_isAgreed_52 rfl ?_
    refine hg_getR grX11_36 dX11_isAgreed_53 rfl rfl ?_
    refine ga_aload_n dX11_isAgreed_56 rfl ?_
    refine hg_getR grX11_16 dX11_isAgreed_57 rfl rfl ?_
    refine ga_iload_n dX11_isAgreed_60 rfl ?_
    refine hg_iald dX11_isAgreed_61 rfl (by omega) (by omega) ?_
    refine hg_dald dX11_isAgreed_62 rfl (by omega) (by omega) ?_
    refine ga_dload dX11_isAgreed_63 rfl ?_
    refine ga_dmul dX11_isAgreed_65 (hf.2) ?_
    refine ga_dcmp dX11_isAgreed_66 (ga_ofI _).symm (ga_inI32 _) ?_
    refine ga_if_gt (tgt := 74) dX11_isAgreed_67 rfl (fun c_67 => ?_) (fun c_67 => ?_)
    · refine ga_iconst dX11_isAgreed_74 ⟨by decide, by decide⟩ ?_
      refine ga_ret (v := some _) ?_ rfl (by decide) (by decide) ⟨dX11_isAgreed_75, _, rfl, rfl⟩
      exact ⟨tvf (fun z => c_67 z), rfl⟩
    · refine ga_iconst dX11_isAgreed_70 ⟨by decide, by decide⟩ ?_
      refine ga_goto (tgt := 75) dX11_isAgreed_71 rfl ?_
      refine ga_ret (v := some _) ?_ rfl (by decide) (by decide) ⟨dX11_isAgreed_75, _, rfl, rfl⟩
      exact ⟨tvt (show agP σ a b from c_67), rfl⟩
  refine ga_aload_n dX11_isAgreed_0 rfl ?_
  refine hg_getR grX11_19 dX11_isAgreed_1 rfl rfl ?_
  refine ga_iload_n dX11_isAgreed_4 rfl ?_
  refine hg_dald dX11_isAgreed_5 rfl (by omega) (by omega) ?_
  refine ga_dstore_n (lv2 := [_, _, _, _, _, _, _, _, _, _, _]) dX11_isAgreed_6 (by decide) rfl rfl ?_
  refine ga_aload_n dX11_isAgreed_7 rfl ?_
  refine hg_getR grX11_19 dX11_isAgreed_8 rfl rfl ?_
  refine ga_iload_n dX11_isAgreed_11 rfl ?_
  refine hg_dald dX11_isAgreed_12 rfl (by omega) (by omega) ?_
  refine ga_dstore (lv2 := [_, _, _, _, _, _, _, _, _, _, _]) dX11_isAgreed_13 (by decide) rfl rfl ?_
  refine ga_dload_n dX11_isAgreed_15 rfl ?_
  refine ga_dload dX11_isAgreed_16 rfl ?_
  refine ga_dcmp dX11_isAgreed_18 (ga_ofI _).symm (ga_inI32 _) ?_
  refine ga_if_le (tgt := 26) dX11_isAgreed_19 rfl (fun c_19 => ?_) (fun c_19 => ?_)
  · have e := sgr_le za zb c_19
    refine ga_dload dX11_isAgreed_26 rfl ?_
    refine ga_dstore (lv2 := [_, _, _, _, _, _, _, _, _, _, _]) dX11_isAgreed_28 (by decide) rfl rfl ?_
    refine ga_dload_n dX11_isAgreed_30 rfl ?_
    refine ga_dload dX11_isAgreed_31 rfl ?_
    refine ga_dcmp dX11_isAgreed_33 (ga_ofI _).symm (ga_inI32 _) ?_
    refine ga_if_le (tgt := 44) dX11_isAgreed_34 rfl (fun c_34 => ?_) (fun c_34 => ?_)
    · refine ga_dload dX11_isAgreed_44 rfl ?_
      refine ga_dload_n dX11_isAgreed_46 rfl ?_
      refine ga_dsub dX11_isAgreed_47 (by have := hf.1; rw [e.1, e.2] at this; exact this) ?_
      exact T48 _ _ e.1.symm (by rw [e.1, e.2]) _ _
    · exact absurd c_19 c_34
  · have e := sgr_gt c_19
    refine ga_dload_n dX11_isAgreed_22 rfl ?_
    refine ga_goto (tgt := 28) dX11_isAgreed_23 rfl ?_
    refine ga_dstore (lv2 := [_, _, _, _, _, _, _, _, _, _, _]) dX11_isAgreed_28 (by decide) rfl rfl ?_
    refine ga_dload_n dX11_isAgreed_30 rfl ?_
    refine ga_dload dX11_isAgreed_31 rfl ?_
    refine ga_dcmp dX11_isAgreed_33 (ga_ofI _).symm (ga_inI32 _) ?_
    refine ga_if_le (tgt := 44) dX11_isAgreed_34 rfl (fun c_34 => ?_) (fun c_34 => ?_)
    · exact absurd c_34 c_19
    · refine ga_dload_n dX11_isAgreed_37 rfl ?_
      refine ga_dload dX11_isAgreed_38 rfl ?_
      refine ga_dsub dX11_isAgreed_40 (by have := hf.1; rw [e.1, e.2] at this; exact this) ?_
      refine ga_goto (tgt := 48) dX11_isAgreed_41 rfl ?_
      exact T48 _ _ e.1.symm (by rw [e.1, e.2]) _ _
theorem T_X11_isFree (p : Nat) (e : Int) (σ : ga_S) (hp : p < 31) (e1 : 0 ≤ e) (e2 : e < 30) : ga_Mt 0 0 0 mX11_isFree [Vr 63, Vi (p : Int), Vi e] (HP σ) (gis (some (Vi (tv ((∀ i : Nat, i < p → σ.1 81 i ≠ e) ∧ σ.1 68 (30 + e) = 0)))) σ) ga_nox := by
  refine ga_meth [some (Vr 63), some (Vi (p : Int)), some (Vi e), none] rfl rfl (by decide +kernel) (Nat.le_of_ble_eq_true rfl) rfl ?_
  refine ga_iconst dX11_isFree_0 ⟨by decide, by decide⟩ ?_
  refine ga_istore_n (lv2 := [_, _, _, _]) dX11_isFree_1 (by decide) rfl rfl ?_
  refine (ga_loop p (fun i => (∀ k : Nat, k < i → σ.1 81 k ≠ e) → ga_W 0 0 0 0 0 mX11_isFree (gis (some (Vi (tv ((∀ i : Nat, i < p → σ.1 81 i ≠ e) ∧ σ.1 68 (30 + e) = 0)))) σ) ga_nox 2 [some (Vr 63), some (Vi (p : Int)), some (Vi e), some (Vi (i : Int))] [] (HP σ)) ?_ ?_ 0 (Nat.zero_le _) (fun k hk => by omega) : _)
  · intro hno
    refine ga_iload_n dX11_isFree_2 rfl ?_
    refine ga_iload_n dX11_isFree_3 rfl ?_
    refine ga_icmp_ge (tgt := 25) dX11_isFree_4 rfl (fun c_4 => ?_) (fun c_4 => ?_)
    · refine ga_aload_n dX11_isFree_25 rfl ?_
      refine hg_getR grX11_23 dX11_isFree_26 rfl rfl ?_
      refine ga_bipush dX11_isFree_29 ⟨by decide, by decide⟩ (by decide) ?_
      refine ga_iload_n dX11_isFree_31 rfl ?_
      refine ga_iadd dX11_isFree_32 rfl (⟨by omega, by omega⟩) ?_
      refine hg_zald dX11_isFree_33 rfl (by omega) (by omega) ?_
      refine ga_if_ne (tgt := 41) dX11_isFree_34 rfl (fun c_34 => ?_) (fun c_34 => ?_)
      · refine ga_iconst dX11_isFree_41 ⟨by decide, by decide⟩ ?_
        refine ga_ret (v := some _) ?_ rfl (by decide) (by decide) ⟨dX11_isFree_42, _, rfl, rfl⟩
        exact ⟨tvf (fun z => c_34 z.2), rfl⟩
      · refine ga_iconst dX11_isFree_37 ⟨by decide, by decide⟩ ?_
        refine ga_goto (tgt := 42) dX11_isFree_38 rfl ?_
        refine ga_ret (v := some _) ?_ rfl (by decide) (by decide) ⟨dX11_isFree_42, _, rfl, rfl⟩
        exact ⟨tvt ⟨hno, c_34⟩, rfl⟩
    · omega
  · intro i hi k hno
    refine ga_iload_n dX11_isFree_2 rfl ?_
    refine ga_iload_n dX11_isFree_3 rfl ?_
    refine ga_icmp_ge (tgt := 25) dX11_isFree_4 rfl (fun c_4 => ?_) (fun c_4 => ?_)
    · omega
    · refine ga_aload_n dX11_isFree_7 rfl ?_
      refine hg_getR grX11_63 dX11_isFree_8 rfl rfl ?_
      refine ga_iload_n dX11_isFree_11 rfl ?_
      refine hg_iald dX11_isFree_12 rfl (by omega) (by omega) ?_
      refine ga_iload_n dX11_isFree_13 rfl ?_
      refine ga_icmp_ne (tgt := 19) dX11_isFree_14 rfl (fun c_14 => ?_) (fun c_14 => ?_)
      · refine ga_iinc (z := ((i + 1 : Nat) : Int)) (lv2 := [_, _, _, _]) dX11_isFree_19 (by decide) rfl rfl (by omega) (⟨by omega, by omega⟩) rfl ?_
        refine ga_goto (tgt := 2) dX11_isFree_22 rfl ?_
        exact k (all_s.mpr ⟨hno, c_14⟩)
      · refine ga_iconst dX11_isFree_17 ⟨by decide, by decide⟩ ?_
        refine ga_ret (v := some _) ?_ rfl (by decide) (by decide) ⟨dX11_isFree_18, _, rfl, rfl⟩
        exact ⟨tvf (fun z => z.1 i hi c_14), rfl⟩
/-- a port's name is one of the other side's -/
def nmP (σ : ga_S) (k : Nat) : Prop := prtd σ k → hN σ (1 - (k : Int) / 40) (σ.1 65 (1 - (k : Int) / 40)).toNat (σ.1 64 k)
theorem T_X11_isNamed (σ : ga_S) (N M : Nat) (hNN : σ.1 65 0 = N) (hN2 : N ≤ 40) (hM : σ.1 65 1 = M) (hM2 : M ≤ 40) : ga_Mt 1 0 0 mX11_isNamed [Vr 63] (HP σ) (gis (some (Vi (tv (∀ k : Nat, k < 80 → nmP σ k)))) σ) ga_nox := by
  refine ga_meth [some (Vr 63), none, none, none] rfl rfl (by decide +kernel) (Nat.le_of_ble_eq_true rfl) rfl ?_
  refine ga_iconst dX11_isNamed_0 ⟨by decide, by decide⟩ ?_
  refine ga_istore_n (lv2 := [_, _, _, _]) dX11_isNamed_1 (by decide) rfl rfl ?_
  refine ga_iconst dX11_isNamed_2 ⟨by decide, by decide⟩ ?_
  refine ga_istore_n (lv2 := [_, _, _, _]) dX11_isNamed_3 (by decide) rfl rfl ?_
  refine ga_eqlv (lv2 := [some (Vr 63), some (Vi (tv (∀ k : Nat, k < 0 → nmP σ k))), some (Vi ((0 : Nat) : Int)), none]) (by rw [tv1 (fun k hk => by omega)]; rfl) ?_
  refine (ga_loop 80 (fun i => ∀ z, ga_W 1 0 0 0 0 mX11_isNamed (gis (some (Vi (tv (∀ k : Nat, k < 80 → nmP σ k)))) σ) ga_nox 4 [some (Vr 63), some (Vi (tv (∀ k : Nat, k < i → nmP σ k))), some (Vi (i : Int)), z] [] (HP σ)) ?_ ?_ 0 (Nat.zero_le _) _ : _)
  · intro z
    refine ga_iload_n dX11_isNamed_4 rfl ?_
    refine ga_bipush dX11_isNamed_5 ⟨by decide, by decide⟩ (by decide) ?_
    refine ga_icmp_ge (tgt := 81) dX11_isNamed_7 rfl (fun c_7 => ?_) (fun c_7 => ?_)
    · refine ga_iload_n dX11_isNamed_81 rfl ?_
      refine ga_ret (v := some _) ?_ rfl (by decide) (by decide) ⟨dX11_isNamed_82, _, rfl, tv_nb⟩
      exact ⟨rfl, rfl⟩
    · omega
  · intro i hi k z
    have hs : ∃ F : Nat, σ.1 65 (1 - (i : Int) / 40) = F ∧ F ≤ 40 := by
      rcases (show (i : Int) / 40 = 0 ∨ (i : Int) / 40 = 1 by omega) with q | q <;> rw [q]
      · exact ⟨M, hM, hM2⟩
      · exact ⟨N, hNN, hN2⟩
    obtain ⟨F, hF, hF2⟩ := hs
    have T74 : ∀ (v : Int) (z : Option ga_V), v = tv (∀ k : Nat, k < i + 1 → nmP σ k) → ga_W 1 0 0 0 0 mX11_isNamed (gis (some (Vi (tv (∀ k : Nat, k < 80 → nmP σ k)))) σ) ga_nox 74 [some (Vr 63), some (Vi (tv (∀ k : Nat, k < i → nmP σ k))), some (Vi (i : Int)), z] [Vi v] (HP σ) := by
      intro v z hv
      refine ga_istore_n (lv2 := [_, _, _, _]) dX11_isNamed_74 (by decide) rfl rfl ?_
      refine ga_iinc (z := ((i + 1 : Nat) : Int)) (lv2 := [_, _, _, _]) dX11_isNamed_75 (by decide) rfl rfl (by omega) (⟨by omega, by omega⟩) rfl ?_
      refine ga_goto (tgt := 4) dX11_isNamed_78 rfl ?_
      rw [hv]
      exact k _
    have T41 : ∀ (v : Int) (z : Option ga_V), v = tv (prtd σ i) → ga_W 1 0 0 0 0 mX11_isNamed (gis (some (Vi (tv (∀ k : Nat, k < 80 → nmP σ k)))) σ) ga_nox 41 [some (Vr 63), some (Vi (tv (∀ k : Nat, k < i → nmP σ k))), some (Vi (i : Int)), z] [Vi v] (HP σ) := by
      intro v z hv
      refine ga_istore_n (lv2 := [_, _, _, _]) dX11_isNamed_41 (by decide) rfl rfl ?_
      refine ga_iload_n dX11_isNamed_42 rfl ?_
      refine ga_if_eq (tgt := 73) dX11_isNamed_43 rfl (fun c_43 => ?_) (fun c_43 => ?_)
      · rw [tv_eq0] at c_43
        refine ga_iconst dX11_isNamed_73 ⟨by decide, by decide⟩ ?_
        exact T74 0 _ (tvz (fun z => c_43 (all_s.mp z).1)).symm
      · rw [tv_ne0] at c_43
        refine ga_iload_n dX11_isNamed_46 rfl ?_
        refine ga_if_eq (tgt := 69) dX11_isNamed_47 rfl (fun c_47 => ?_) (fun c_47 => ?_)
        · rw [hv, tv_eq0] at c_47
          refine ga_iconst dX11_isNamed_69 ⟨by decide, by decide⟩ ?_
          refine ga_goto (tgt := 74) dX11_isNamed_70 rfl ?_
          exact T74 1 _ (tv1 (all_s.mpr ⟨c_43, fun w => absurd w c_47⟩)).symm
        · rw [hv, tv_ne0] at c_47
          have eQ : nmP σ i ↔ hN σ (1 - (i : Int) / 40) F (σ.1 64 i) := by
            unfold nmP
            rw [hF, Int.toNat_natCast]
            exact ⟨fun w => w c_47, fun w _ => w⟩
          refine ga_aload_n dX11_isNamed_50 rfl ?_
          refine ga_iconst dX11_isNamed_51 ⟨by decide, by decide⟩ ?_
          refine ga_iload_n dX11_isNamed_52 rfl ?_
          refine ga_bipush dX11_isNamed_53 ⟨by decide, by decide⟩ (by decide) ?_
          refine ga_idiv (z := ((i : Int) / 40)) dX11_isNamed_55 (by omega) (by decide) (by omega) ?_
          refine ga_isub dX11_isNamed_56 rfl (⟨by omega, by omega⟩) ?_
          refine ga_aload_n dX11_isNamed_57 rfl ?_
          refine hg_getR grX11_7 dX11_isNamed_58 rfl rfl ?_
          refine ga_iload_n dX11_isNamed_61 rfl ?_
          refine hg_iald dX11_isNamed_62 rfl (by omega) (by omega) ?_
          refine hc_V (T_X11_hasName (1 - (i : Int) / 40) (σ.1 64 i) σ F (by omega) hF hF2) fX11_hasName rfl kX11_hasName lkX11_191 dX11_isNamed_63 rfl rfl rfl rfl rfl rfl rfl rfl ?_
          refine ga_if_eq (tgt := 73) dX11_isNamed_66 rfl (fun c_66 => ?_) (fun c_66 => ?_)
          · rw [tv_eq0] at c_66
            refine ga_iconst dX11_isNamed_73 ⟨by decide, by decide⟩ ?_
            exact T74 0 _ (tvz (fun z => c_66 (eQ.mp (all_s.mp z).2))).symm
          · rw [tv_ne0] at c_66
            refine ga_iconst dX11_isNamed_69 ⟨by decide, by decide⟩ ?_
            refine ga_goto (tgt := 74) dX11_isNamed_70 rfl ?_
            exact T74 1 _ (tv1 (all_s.mpr ⟨c_43, eQ.mpr c_66⟩)).symm
    refine ga_iload_n dX11_isNamed_4 rfl ?_
    refine ga_bipush dX11_isNamed_5 ⟨by decide, by decide⟩ (by decide) ?_
    refine ga_icmp_ge (tgt := 81) dX11_isNamed_7 rfl (fun c_7 => ?_) (fun c_7 => ?_)
    · omega
    · refine ga_iload_n dX11_isNamed_10 rfl ?_
      refine ga_bipush dX11_isNamed_11 ⟨by decide, by decide⟩ (by decide) ?_
      refine ga_irem (z := ((i : Int) % 40)) dX11_isNamed_13 (by omega) (by decide) (by omega) ?_
      refine ga_aload_n dX11_isNamed_14 rfl ?_
      refine hg_getR grX11_13 dX11_isNamed_15 rfl rfl ?_
      refine ga_iload_n dX11_isNamed_18 rfl ?_
      refine ga_bipush dX11_isNamed_19 ⟨by decide, by decide⟩ (by decide) ?_
      refine ga_idiv (z := ((i : Int) / 40)) dX11_isNamed_21 (by omega) (by decide) (by omega) ?_
      refine hg_iald dX11_isNamed_22 rfl (by omega) (by omega) ?_
      refine ga_icmp_ge (tgt := 40) dX11_isNamed_23 rfl (fun c_23 => ?_) (fun c_23 => ?_)
      · refine ga_iconst dX11_isNamed_40 ⟨by decide, by decide⟩ ?_
        exact T41 0 _ (tvz (fun w => by have := w.1; omega)).symm
      · refine ga_aload_n dX11_isNamed_26 rfl ?_
        refine hg_getR grX11_7 dX11_isNamed_27 rfl rfl ?_
        refine ga_iload_n dX11_isNamed_30 rfl ?_
        refine hg_iald dX11_isNamed_31 rfl (by omega) (by omega) ?_
        refine ga_iconst dX11_isNamed_32 ⟨by decide, by decide⟩ ?_
        refine ga_icmp_eq (tgt := 40) dX11_isNamed_33 rfl (fun c_33 => ?_) (fun c_33 => ?_)
        · refine ga_iconst dX11_isNamed_40 ⟨by decide, by decide⟩ ?_
          exact T41 0 _ (tvz (fun w => w.2 c_33)).symm
        · refine ga_iconst dX11_isNamed_36 ⟨by decide, by decide⟩ ?_
          refine ga_goto (tgt := 41) dX11_isNamed_37 rfl ?_
          exact T41 1 _ (tv1 ⟨by omega, c_33⟩).symm
