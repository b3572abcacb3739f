-- the reference: live, used, hasName, ofKind, ofClass
theorem ga_eqlv {t mc ms kc ks : Nat} {M : ga_M0} {P : ga_Po} {X : ga_Px} {pc : Nat} {lv lv2 : List (Option ga_V)} {st : List ga_V} {h : ga_H} (e : lv = lv2) (k : ga_W t mc ms kc ks M P X pc lv2 st h) : ga_W t mc ms kc ks M P X pc lv st h := by rw [e]; exact k
theorem T_X11_live (s : Int) (σ : ga_S) (D : Nat) (h1 : s = 0 ∨ s = 1) (hD : σ.1 70 s = D) (hD2 : D ≤ 30) : ga_Mt 0 0 0 mX11_live [Vr 63, Vi s] (HP σ) (gis (some (Vi (sz (fun d => tv (σ.1 68 (30 * s + d) = 0)) D))) σ) ga_nox := by
  have hb := fun m : Nat => sz_b (f := fun d => tv (σ.1 68 (30 * s + d) = 0)) (fun _ => tv_le) (n := m)
  refine ga_meth [some (Vr 63), some (Vi s), none, none] rfl rfl (by decide +kernel) (Nat.le_of_ble_eq_true rfl) rfl ?_
  refine ga_iconst dX11_live_0 ⟨by decide, by decide⟩ ?_
  refine ga_istore_n (lv2 := [_, _, _, _]) dX11_live_1 (by decide) rfl rfl ?_
  refine ga_bipush dX11_live_2 ⟨by decide, by decide⟩ (by decide) ?_
  refine ga_iload_n dX11_live_4 rfl ?_
  refine ga_imul (z := (30 * s + ((0 : Nat) : Int))) dX11_live_5 (by omega) (⟨by omega, by omega⟩) ?_
  refine ga_istore_n (lv2 := [_, _, _, _]) dX11_live_6 (by decide) rfl rfl ?_
  refine (ga_loop D (fun i => ga_W 0 0 0 0 0 mX11_live (gis (some (Vi (sz (fun d => tv (σ.1 68 (30 * s + d) = 0)) D))) σ) ga_nox 7 [some (Vr 63), some (Vi s), some (Vi (sz (fun d => tv (σ.1 68 (30 * s + d) = 0)) i)), some (Vi (30 * s + i))] [] (HP σ)) ?_ ?_ 0 (Nat.zero_le _) : _)
  · refine ga_iload_n dX11_live_7 rfl ?_
    refine ga_bipush dX11_live_8 ⟨by decide, by decide⟩ (by decide) ?_
    refine ga_iload_n dX11_live_10 rfl ?_
    refine ga_imul dX11_live_11 rfl (⟨by omega, by omega⟩) ?_
    refine ga_aload_n dX11_live_12 rfl ?_
    refine hg_getR grX11_30 dX11_live_13 rfl rfl ?_
    refine ga_iload_n dX11_live_16 rfl ?_
    refine hg_iald dX11_live_17 rfl (by omega) (by omega) ?_
    refine ga_iadd dX11_live_18 rfl (⟨by omega, by omega⟩) ?_
    refine ga_icmp_ge (tgt := 45) dX11_live_19 rfl (fun c_19 => ?_) (fun c_19 => ?_)
    · refine ga_iload_n dX11_live_45 rfl ?_
      refine ga_ret (v := some _) ?_ rfl (by decide) (by decide) ⟨dX11_live_46, _, rfl, rfl⟩
      exact ⟨rfl, rfl⟩
    · omega
  · intro i hi k
    have h5 := hb i
    simp only [sz_s _ i] at k
    have TAIL : ∀ v : Int, v = tv (σ.1 68 (30 * s + (i : Int)) = 0) → ga_W 0 0 0 0 0 mX11_live (gis (some (Vi (sz (fun d => tv (σ.1 68 (30 * s + d) = 0)) D))) σ) ga_nox 37 [some (Vr 63), some (Vi s), some (Vi (sz (fun d => tv (σ.1 68 (30 * s + d) = 0)) i)), some (Vi (30 * s + i))] [Vi v, Vi (sz (fun d => tv (σ.1 68 (30 * s + d) = 0)) i)] (HP σ) := by
      intro v hv
      have hv2 := tv_le (p := σ.1 68 (30 * s + (i : Int)) = 0)
      rw [← hv] at k
      refine ga_iadd dX11_live_37 rfl (⟨by omega, by omega⟩) ?_
      refine ga_istore_n (lv2 := [_, _, _, _]) dX11_live_38 (by decide) rfl rfl ?_
      refine ga_iinc (z := (30 * s + ((i + 1 : Nat) : Int))) (lv2 := [_, _, _, _]) dX11_live_39 (by decide) rfl rfl (by omega) (⟨by omega, by omega⟩) rfl ?_
      refine ga_goto (tgt := 7) dX11_live_42 rfl ?_
      exact k
    refine ga_iload_n dX11_live_7 rfl ?_
    refine ga_bipush dX11_live_8 ⟨by decide, by decide⟩ (by decide) ?_
    refine ga_iload_n dX11_live_10 rfl ?_
    refine ga_imul dX11_live_11 rfl (⟨by omega, by omega⟩) ?_
    refine ga_aload_n dX11_live_12 rfl ?_
    refine hg_getR grX11_30 dX11_live_13 rfl rfl ?_
    refine ga_iload_n dX11_live_16 rfl ?_
    refine hg_iald dX11_live_17 rfl (by omega) (by omega) ?_
    refine ga_iadd dX11_live_18 rfl (⟨by omega, by omega⟩) ?_
    refine ga_icmp_ge (tgt := 45) dX11_live_19 rfl (fun c_19 => ?_) (fun c_19 => ?_)
    · omega
    · refine ga_iload_n dX11_live_22 rfl ?_
      refine ga_aload_n dX11_live_23 rfl ?_
      refine hg_getR grX11_23 dX11_live_24 rfl rfl ?_
      refine ga_iload_n dX11_live_27 rfl ?_
      refine hg_zald dX11_live_28 rfl (by omega) (by omega) ?_
      refine ga_if_eq (tgt := 36) dX11_live_29 rfl (fun c_29 => ?_) (fun c_29 => ?_)
      · refine ga_iconst dX11_live_36 ⟨by decide, by decide⟩ ?_
        exact TAIL 1 (tv1 c_29).symm
      · refine ga_iconst dX11_live_32 ⟨by decide, by decide⟩ ?_
        refine ga_goto (tgt := 37) dX11_live_33 rfl ?_
        exact TAIL 0 (tvz c_29).symm
theorem T_X11_ofKind (s kd : Int) (σ : ga_S) (D : Nat) (h1 : s = 0 ∨ s = 1) (hD : σ.1 70 s = D) (hD2 : D ≤ 30) : ga_Mt 0 0 0 mX11_ofKind [Vr 63, Vi s, Vi kd] (HP σ) (gis (some (Vi (sz (fun d => tv (σ.1 68 (30 * s + d) = 0 ∧ σ.1 66 (30 * s + d) = kd)) D))) σ) ga_nox := by
  have hb := fun m : Nat => sz_b (f := fun d => tv (σ.1 68 (30 * s + d) = 0 ∧ σ.1 66 (30 * s + d) = kd)) (fun _ => tv_le) (n := m)
  refine ga_meth [some (Vr 63), some (Vi s), some (Vi kd), none, none] rfl rfl (by decide +kernel) (Nat.le_of_ble_eq_true rfl) rfl ?_
  refine ga_iconst dX11_ofKind_0 ⟨by decide, by decide⟩ ?_
  refine ga_istore_n (lv2 := [_, _, _, _, _]) dX11_ofKind_1 (by decide) rfl rfl ?_
  refine ga_bipush dX11_ofKind_2 ⟨by decide, by decide⟩ (by decide) ?_
  refine ga_iload_n dX11_ofKind_4 rfl ?_
  refine ga_imul (z := (30 * s + ((0 : Nat) : Int))) dX11_ofKind_5 (by omega) (⟨by omega, by omega⟩) ?_
  refine ga_istore (lv2 := [_, _, _, _, _]) dX11_ofKind_6 (by decide) rfl rfl ?_
  refine (ga_loop D (fun i => ga_W 0 0 0 0 0 mX11_ofKind (gis (some (Vi (sz (fun d => tv (σ.1 68 (30 * s + d) = 0 ∧ σ.1 66 (30 * s + d) = kd)) D))) σ) ga_nox 8 [some (Vr 63), some (Vi s), some (Vi kd), some (Vi (sz (fun d => tv (σ.1 68 (30 * s + d) = 0 ∧ σ.1 66 (30 * s + d) = kd)) i)), some (Vi (30 * s + i))] [] (HP σ)) ?_ ?_ 0 (Nat.zero_le _) : _)
  · refine ga_iload dX11_ofKind_8 rfl ?_
    refine ga_bipush dX11_ofKind_10 ⟨by decide, by decide⟩ (by decide) ?_
    refine ga_iload_n dX11_ofKind_12 rfl ?_
    refine ga_imul dX11_ofKind_13 rfl (⟨by omega, by omega⟩) ?_
    refine ga_aload_n dX11_ofKind_14 rfl ?_
    refine hg_getR grX11_30 dX11_ofKind_15 rfl rfl ?_
    refine ga_iload_n dX11_ofKind_18 rfl ?_
    refine hg_iald dX11_ofKind_19 rfl (by omega) (by omega) ?_
    refine ga_iadd dX11_ofKind_20 rfl (⟨by omega, by omega⟩) ?_
    refine ga_icmp_ge (tgt := 59) dX11_ofKind_21 rfl (fun c_21 => ?_) (fun c_21 => ?_)
    · refine ga_iload_n dX11_ofKind_59 rfl ?_
      refine ga_ret (v := some _) ?_ rfl (by decide) (by decide) ⟨dX11_ofKind_60, _, rfl, rfl⟩
      exact ⟨rfl, rfl⟩
    · omega
  · intro i hi k
    have h5 := hb i
    simp only [sz_s _ i] at k
    have TAIL : ∀ v : Int, v = tv (σ.1 68 (30 * s + (i : Int)) = 0 ∧ σ.1 66 (30 * s + (i : Int)) = kd) → ga_W 0 0 0 0 0 mX11_ofKind (gis (some (Vi (sz (fun d => tv (σ.1 68 (30 * s + d) = 0 ∧ σ.1 66 (30 * s + d) = kd)) D))) σ) ga_nox 51 [some (Vr 63), some (Vi s), some (Vi kd), some (Vi (sz (fun d => tv (σ.1 68 (30 * s + d) = 0 ∧ σ.1 66 (30 * s + d) = kd)) i)), some (Vi (30 * s + i))] [Vi v, Vi (sz (fun d => tv (σ.1 68 (30 * s + d) = 0 ∧ σ.1 66 (30 * s + d) = kd)) i)] (HP σ) := by
      intro v hv
      have hv2 := tv_le (p := σ.1 68 (30 * s + (i : Int)) = 0 ∧ σ.1 66 (30 * s + (i : Int)) = kd)
      rw [← hv] at k
      refine ga_iadd dX11_ofKind_51 rfl (⟨by omega, by omega⟩) ?_
      refine ga_istore_n (lv2 := [_, _, _, _, _]) dX11_ofKind_52 (by decide) rfl rfl ?_
      refine ga_iinc (z := (30 * s + ((i + 1 : Nat) : Int))) (lv2 := [_, _, _, _, _]) dX11_ofKind_53 (by decide) rfl rfl (by omega) (⟨by omega, by omega⟩) rfl ?_
      refine ga_goto (tgt := 8) dX11_ofKind_56 rfl ?_
      exact k
    refine ga_iload dX11_ofKind_8 rfl ?_
    refine ga_bipush dX11_ofKind_10 ⟨by decide, by decide⟩ (by decide) ?_
    refine ga_iload_n dX11_ofKind_12 rfl ?_
    refine ga_imul dX11_ofKind_13 rfl (⟨by omega, by omega⟩) ?_
    refine ga_aload_n dX11_ofKind_14 rfl ?_
    refine hg_getR grX11_30 dX11_ofKind_15 rfl rfl ?_
    refine ga_iload_n dX11_ofKind_18 rfl ?_
    refine hg_iald dX11_ofKind_19 rfl (by omega) (by omega) ?_
    refine ga_iadd dX11_ofKind_20 rfl (⟨by omega, by omega⟩) ?_
    refine ga_icmp_ge (tgt := 59) dX11_ofKind_21 rfl (fun c_21 => ?_) (fun c_21 => ?_)
    · omega
    · refine ga_iload_n dX11_ofKind_24 rfl ?_
      refine ga_aload_n dX11_ofKind_25 rfl ?_
      refine hg_getR grX11_23 dX11_ofKind_26 rfl rfl ?_
      refine ga_iload dX11_ofKind_29 rfl ?_
      refine hg_zald dX11_ofKind_31 rfl (by omega) (by omega) ?_
      refine ga_if_ne (tgt := 50) dX11_ofKind_32 rfl (fun c_32 => ?_) (fun c_32 => ?_)
      · refine ga_iconst dX11_ofKind_50 ⟨by decide, by decide⟩ ?_
        exact TAIL 0 (tvz (fun z => c_32 z.1)).symm
      · refine ga_aload_n dX11_ofKind_35 rfl ?_
        refine hg_getR grX11_16 dX11_ofKind_36 rfl rfl ?_
        refine ga_iload dX11_ofKind_39 rfl ?_
        refine hg_iald dX11_ofKind_41 rfl (by omega) (by omega) ?_
        refine ga_iload_n dX11_ofKind_42 rfl ?_
        refine ga_icmp_ne (tgt := 50) dX11_ofKind_43 rfl (fun c_43 => ?_) (fun c_43 => ?_)
        · refine ga_iconst dX11_ofKind_50 ⟨by decide, by decide⟩ ?_
          exact TAIL 0 (tvz (fun z => c_43 z.2)).symm
        · refine ga_iconst dX11_ofKind_46 ⟨by decide, by decide⟩ ?_
          refine ga_goto (tgt := 51) dX11_ofKind_47 rfl ?_
          exact TAIL 1 (tv1 ⟨c_32, c_43⟩).symm
theorem T_X11_ofClass (s kd : Int) (σ : ga_S) (D : Nat) (h1 : s = 0 ∨ s = 1) (hD : σ.1 70 s = D) (hD2 : D ≤ 30) : ga_Mt 0 0 0 mX11_ofClass [Vr 63, Vi s, Vi kd] (HP σ) (gis (some (Vi (sz (fun d => tv (σ.1 68 (30 * s + d) = 0 ∧ σ.1 73 (30 * s + d) = kd)) D))) σ) ga_nox := by
  have hb := fun m : Nat => sz_b (f := fun d => tv (σ.1 68 (30 * s + d) = 0 ∧ σ.1 73 (30 * s + d) = kd)) (fun _ => tv_le) (n := m)
  refine ga_meth [some (Vr 63), some (Vi s), some (Vi kd), none, none] rfl rfl (by decide +kernel) (Nat.le_of_ble_eq_true rfl) rfl ?_
  refine ga_iconst dX11_ofClass_0 ⟨by decide, by decide⟩ ?_
  refine ga_istore_n (lv2 := [_, _, _, _, _]) dX11_ofClass_1 (by decide) rfl rfl ?_
  refine ga_bipush dX11_ofClass_2 ⟨by decide, by decide⟩ (by decide) ?_
  refine ga_iload_n dX11_ofClass_4 rfl ?_
  refine ga_imul (z := (30 * s + ((0 : Nat) : Int))) dX11_ofClass_5 (by omega) (⟨by omega, by omega⟩) ?_
  refine ga_istore (lv2 := [_, _, _, _, _]) dX11_ofClass_6 (by decide) rfl rfl ?_
  refine (ga_loop D (fun i => ga_W 0 0 0 0 0 mX11_ofClass (gis (some (Vi (sz (fun d => tv (σ.1 68 (30 * s + d) = 0 ∧ σ.1 73 (30 * s + d) = kd)) D))) σ) ga_nox 8 [some (Vr 63), some (Vi s), some (Vi kd), some (Vi (sz (fun d => tv (σ.1 68 (30 * s + d) = 0 ∧ σ.1 73 (30 * s + d) = kd)) i)), some (Vi (30 * s + i))] [] (HP σ)) ?_ ?_ 0 (Nat.zero_le _) : _)
  · refine ga_iload dX11_ofClass_8 rfl ?_
    refine ga_bipush dX11_ofClass_10 ⟨by decide, by decide⟩ (by decide) ?_
    refine ga_iload_n dX11_ofClass_12 rfl ?_
    refine ga_imul dX11_ofClass_13 rfl (⟨by omega, by omega⟩) ?_
    refine ga_aload_n dX11_ofClass_14 rfl ?_
    refine hg_getR grX11_30 dX11_ofClass_15 rfl rfl ?_
    refine ga_iload_n dX11_ofClass_18 rfl ?_
    refine hg_iald dX11_ofClass_19 rfl (by omega) (by omega) ?_
    refine ga_iadd dX11_ofClass_20 rfl (⟨by omega, by omega⟩) ?_
    refine ga_icmp_ge (tgt := 59) dX11_ofClass_21 rfl (fun c_21 => ?_) (fun c_21 => ?_)
    · refine ga_iload_n dX11_ofClass_59 rfl ?_
      refine ga_ret (v := some _) ?_ rfl (by decide) (by decide) ⟨dX11_ofClass_60, _, rfl, rfl⟩
      exact ⟨rfl, rfl⟩
    · omega
  · intro i hi k
    have h5 := hb i
    simp only [sz_s _ i] at k
    have TAIL : ∀ v : Int, v = tv (σ.1 68 (30 * s + (i : Int)) = 0 ∧ σ.1 73 (30 * s + (i : Int)) = kd) → ga_W 0 0 0 0 0 mX11_ofClass (gis (some (Vi (sz (fun d => tv (σ.1 68 (30 * s + d) = 0 ∧ σ.1 73 (30 * s + d) = kd)) D))) σ) ga_nox 51 [some (Vr 63), some (Vi s), some (Vi kd), some (Vi (sz (fun d => tv (σ.1 68 (30 * s + d) = 0 ∧ σ.1 73 (30 * s + d) = kd)) i)), some (Vi (30 * s + i))] [Vi v, Vi (sz (fun d => tv (σ.1 68 (30 * s + d) = 0 ∧ σ.1 73 (30 * s + d) = kd)) i)] (HP σ) := by
      intro v hv
      have hv2 := tv_le (p := σ.1 68 (30 * s + (i : Int)) = 0 ∧ σ.1 73 (30 * s + (i : Int)) = kd)
      rw [← hv] at k
      refine ga_iadd dX11_ofClass_51 rfl (⟨by omega, by omega⟩) ?_
      refine ga_istore_n (lv2 := [_, _, _, _, _]) dX11_ofClass_52 (by decide) rfl rfl ?_
      refine ga_iinc (z := (30 * s + ((i + 1 : Nat) : Int))) (lv2 := [_, _, _, _, _]) dX11_ofClass_53 (by decide) rfl rfl (by omega) (⟨by omega, by omega⟩) rfl ?_
      refine ga_goto (tgt := 8) dX11_ofClass_56 rfl ?_
      exact k
    refine ga_iload dX11_ofClass_8 rfl ?_
    refine ga_bipush dX11_ofClass_10 ⟨by decide, by decide⟩ (by decide) ?_
    refine ga_iload_n dX11_ofClass_12 rfl ?_
    refine ga_imul dX11_ofClass_13 rfl (⟨by omega, by omega⟩) ?_
    refine ga_aload_n dX11_ofClass_14 rfl ?_
    refine hg_getR grX11_30 dX11_ofClass_15 rfl rfl ?_
    refine ga_iload_n dX11_ofClass_18 rfl ?_
    refine hg_iald dX11_ofClass_19 rfl (by omega) (by omega) ?_
    refine ga_iadd dX11_ofClass_20 rfl (⟨by omega, by omega⟩) ?_
    refine ga_icmp_ge (tgt := 59) dX11_ofClass_21 rfl (fun c_21 => ?_) (fun c_21 => ?_)
    · omega
    · refine ga_iload_n dX11_ofClass_24 rfl ?_
      refine ga_aload_n dX11_ofClass_25 rfl ?_
      refine hg_getR grX11_23 dX11_ofClass_26 rfl rfl ?_
      refine ga_iload dX11_ofClass_29 rfl ?_
      refine hg_zald dX11_ofClass_31 rfl (by omega) (by omega) ?_
      refine ga_if_ne (tgt := 50) dX11_ofClass_32 rfl (fun c_32 => ?_) (fun c_32 => ?_)
      · refine ga_iconst dX11_ofClass_50 ⟨by decide, by decide⟩ ?_
        exact TAIL 0 (tvz (fun z => c_32 z.1)).symm
      · refine ga_aload_n dX11_ofClass_35 rfl ?_
        refine hg_getR grX11_39 dX11_ofClass_36 rfl rfl ?_
        refine ga_iload dX11_ofClass_39 rfl ?_
        refine hg_iald dX11_ofClass_41 rfl (by omega) (by omega) ?_
        refine ga_iload_n dX11_ofClass_42 rfl ?_
        refine ga_icmp_ne (tgt := 50) dX11_ofClass_43 rfl (fun c_43 => ?_) (fun c_43 => ?_)
        · refine ga_iconst dX11_ofClass_50 ⟨by decide, by decide⟩ ?_
          exact TAIL 0 (tvz (fun z => c_43 z.2)).symm
        · refine ga_iconst dX11_ofClass_46 ⟨by decide, by decide⟩ ?_
          refine ga_goto (tgt := 51) dX11_ofClass_47 rfl ?_
          exact TAIL 1 (tv1 ⟨c_32, c_43⟩).symm
theorem T_X11_used (s : Int) (σ : ga_S) (D N : Nat) (h1 : s = 0 ∨ s = 1) (hD : σ.1 70 s = D) (hD2 : D ≤ 30) (hN : σ.1 65 s = N) (hN2 : N ≤ 40) : ga_Mt 2 0 0 mX11_used [Vr 63, Vi s] (HP σ) (gis (some (Vi (sz (fun n => tv (σ.1 64 (40 * s + n) ≠ -1 ∨ 0 < allB σ s n)) N))) σ) ga_nox := by
  have hb := fun m : Nat => sz_b (f := fun n => tv (σ.1 64 (40 * s + n) ≠ -1 ∨ 0 < allB σ s n)) (fun _ => tv_le) (n := m)
  refine ga_meth [some (Vr 63), some (Vi s), none, none] rfl rfl (by decide +kernel) (Nat.le_of_ble_eq_true rfl) rfl ?_
  refine ga_iconst dX11_used_0 ⟨by decide, by decide⟩ ?_
  refine ga_istore_n (lv2 := [_, _, _, _]) dX11_used_1 (by decide) rfl rfl ?_
  refine ga_iconst dX11_used_2 ⟨by decide, by decide⟩ ?_
  refine ga_istore_n (lv2 := [_, _, _, _]) dX11_used_3 (by decide) rfl rfl ?_
  refine (ga_loop N (fun i => ga_W 2 0 0 0 0 mX11_used (gis (some (Vi (sz (fun n => tv (σ.1 64 (40 * s + n) ≠ -1 ∨ 0 < allB σ s n)) N))) σ) ga_nox 4 [some (Vr 63), some (Vi s), some (Vi (sz (fun n => tv (σ.1 64 (40 * s + n) ≠ -1 ∨ 0 < allB σ s n)) i)), some (Vi (i : Int))] [] (HP σ)) ?_ ?_ 0 (Nat.zero_le _) : _)
  · refine ga_iload_n dX11_used_4 rfl ?_
    refine ga_aload_n dX11_used_5 rfl ?_
    refine hg_getR grX11_13 dX11_used_6 rfl rfl ?_
    refine ga_iload_n dX11_used_9 rfl ?_
    refine hg_iald dX11_used_10 rfl (by omega) (by omega) ?_
    refine ga_icmp_ge (tgt := 37) dX11_used_11 rfl (fun c_11 => ?_) (fun c_11 => ?_)
    · refine ga_iload_n dX11_used_37 rfl ?_
      refine ga_ret (v := some _) ?_ rfl (by decide) (by decide) ⟨dX11_used_38, _, rfl, rfl⟩
      exact ⟨rfl, rfl⟩
    · omega
  · intro i hi k
    have h5 := hb i
    simp only [sz_s _ i] at k
    have TAIL : ∀ v : Int, v = tv (σ.1 64 (40 * s + (i : Int)) ≠ -1 ∨ 0 < allB σ s i) → ga_W 2 0 0 0 0 mX11_used (gis (some (Vi (sz (fun n => tv (σ.1 64 (40 * s + n) ≠ -1 ∨ 0 < allB σ s n)) N))) σ) ga_nox 29 [some (Vr 63), some (Vi s), some (Vi (sz (fun n => tv (σ.1 64 (40 * s + n) ≠ -1 ∨ 0 < allB σ s n)) i)), some (Vi (i : Int))] [Vi v, Vi (sz (fun n => tv (σ.1 64 (40 * s + n) ≠ -1 ∨ 0 < allB σ s n)) i)] (HP σ) := by
      intro v hv
      have hv2 := tv_le (p := σ.1 64 (40 * s + (i : Int)) ≠ -1 ∨ 0 < allB σ s i)
      rw [← hv] at k
      refine ga_iadd dX11_used_29 rfl (⟨by omega, by omega⟩) ?_
      refine ga_istore_n (lv2 := [_, _, _, _]) dX11_used_30 (by decide) rfl rfl ?_
      refine ga_iinc (z := ((i + 1 : Nat) : Int)) (lv2 := [_, _, _, _]) dX11_used_31 (by decide) rfl rfl (by omega) (⟨by omega, by omega⟩) rfl ?_
      refine ga_goto (tgt := 4) dX11_used_34 rfl ?_
      exact k
    refine ga_iload_n dX11_used_4 rfl ?_
    refine ga_aload_n dX11_used_5 rfl ?_
    refine hg_getR grX11_13 dX11_used_6 rfl rfl ?_
    refine ga_iload_n dX11_used_9 rfl ?_
    refine hg_iald dX11_used_10 rfl (by omega) (by omega) ?_
    refine ga_icmp_ge (tgt := 37) dX11_used_11 rfl (fun c_11 => ?_) (fun c_11 => ?_)
    · omega
    · refine ga_iload_n dX11_used_14 rfl ?_
      refine ga_aload_n dX11_used_15 rfl ?_
      refine ga_iload_n dX11_used_16 rfl ?_
      refine ga_iload_n dX11_used_17 rfl ?_
      refine hc_V (T_X11_isUsed s i σ D h1 hD hD2 (by omega) (by omega)) fX11_isUsed rfl kX11_isUsed lkX11_140 dX11_used_18 rfl rfl rfl rfl rfl rfl rfl rfl ?_
      refine ga_if_eq (tgt := 28) dX11_used_21 rfl (fun c_21 => ?_) (fun c_21 => ?_)
      · refine ga_iconst dX11_used_28 ⟨by decide, by decide⟩ ?_
        exact TAIL 0 (tvz (tv_eq0.mp c_21)).symm
      · refine ga_iconst dX11_used_24 ⟨by decide, by decide⟩ ?_
        refine ga_goto (tgt := 29) dX11_used_25 rfl ?_
        exact TAIL 1 (tv1 (tv_ne0.mp c_21)).symm
/-- a name is among the first n of a side -/
def hN (β : ga_S) (s : Int) (n : Nat) (q : Int) : Prop := ∃ i : Int, 0 ≤ i ∧ i < n ∧ β.1 64 (40 * s + i) = q
theorem hN_s {β : ga_S} {s q : Int} {n : Nat} : hN β s (n + 1) q ↔ hN β s n q ∨ β.1 64 (40 * s + n) = q := by
  constructor
  · rintro ⟨i, i1, i2, i3⟩
    by_cases e : i = n
    · right; rw [← e]; exact i3
    · left; exact ⟨i, i1, by omega, i3⟩
  · rintro (⟨i, i1, i2, i3⟩ | h)
    · exact ⟨i, i1, by omega, i3⟩
    · exact ⟨n, by omega, by omega, h⟩
theorem T_X11_hasName (s q : Int) (σ : ga_S) (N : Nat) (h1 : s = 0 ∨ s = 1) (hNN : σ.1 65 s = N) (hN2 : N ≤ 40) : ga_Mt 0 0 0 mX11_hasName [Vr 63, Vi s, Vi q] (HP σ) (gis (some (Vi (tv (hN σ s N q)))) σ) ga_nox := by
  refine ga_meth [some (Vr 63), some (Vi s), some (Vi q), none, none] rfl rfl (by decide +kernel) (Nat.le_of_ble_eq_true rfl) rfl ?_
  refine ga_iconst dX11_hasName_0 ⟨by decide, by decide⟩ ?_
  refine ga_istore_n (lv2 := [_, _, _, _, _]) dX11_hasName_1 (by decide) rfl rfl ?_
  refine ga_iconst dX11_hasName_2 ⟨by decide, by decide⟩ ?_
  refine ga_istore (lv2 := [_, _, _, _, _]) dX11_hasName_3 (by decide) rfl rfl ?_
  have e0 : (0 : Int) = tv (hN σ s 0 q) := (tvz (fun z => by obtain ⟨i, i1, i2, _⟩ := z; omega)).symm
  refine ga_eqlv (lv2 := [some (Vr 63), some (Vi s), some (Vi q), some (Vi (tv (hN σ s 0 q))), some (Vi ((0 : Nat) : Int))]) (by rw [← e0]; rfl) ?_
  refine (ga_loop N (fun i => ga_W 0 0 0 0 0 mX11_hasName (gis (some (Vi (tv (hN σ s N q)))) σ) ga_nox 5 [some (Vr 63), some (Vi s), some (Vi q), some (Vi (tv (hN σ s i q))), some (Vi (i : Int))] [] (HP σ)) ?_ ?_ 0 (Nat.zero_le _) : _)
  · refine ga_iload dX11_hasName_5 rfl ?_
    refine ga_aload_n dX11_hasName_7 rfl ?_
    refine hg_getR grX11_13 dX11_hasName_8 rfl rfl ?_
    refine ga_iload_n dX11_hasName_11 rfl ?_
    refine hg_iald dX11_hasName_12 rfl (by omega) (by omega) ?_
    refine ga_icmp_ge (tgt := 48) dX11_hasName_13 rfl (fun c_13 => ?_) (fun c_13 => ?_)
    · refine ga_iload_n dX11_hasName_48 rfl ?_
      refine ga_ret (v := some _) ?_ rfl (by decide) (by decide) ⟨dX11_hasName_49, _, rfl, tv_nb⟩
      exact ⟨rfl, rfl⟩
    · omega
  · intro i hi k
    have TAIL : ∀ v : Int, v = tv (hN σ s (i + 1) q) → ga_W 0 0 0 0 0 mX11_hasName (gis (some (Vi (tv (hN σ s N q)))) σ) ga_nox 41 [some (Vr 63), some (Vi s), some (Vi q), some (Vi (tv (hN σ s i q))), some (Vi (i : Int))] [Vi v] (HP σ) := by
      intro v hv
      rw [← hv] at k
      refine ga_istore_n (lv2 := [_, _, _, _, _]) dX11_hasName_41 (by decide) rfl rfl ?_
      refine ga_iinc (z := ((i + 1 : Nat) : Int)) (lv2 := [_, _, _, _, _]) dX11_hasName_42 (by decide) rfl rfl (by omega) (⟨by omega, by omega⟩) rfl ?_
      refine ga_goto (tgt := 5) dX11_hasName_45 rfl ?_
      exact k
    refine ga_iload dX11_hasName_5 rfl ?_
    refine ga_aload_n dX11_hasName_7 rfl ?_
    refine hg_getR grX11_13 dX11_hasName_8 rfl rfl ?_
    refine ga_iload_n dX11_hasName_11 rfl ?_
    refine hg_iald dX11_hasName_12 rfl (by omega) (by omega) ?_
    refine ga_icmp_ge (tgt := 48) dX11_hasName_13 rfl (fun c_13 => ?_) (fun c_13 => ?_)
    · omega
    · refine ga_iload_n dX11_hasName_16 rfl ?_
      refine ga_if_ne (tgt := 36) dX11_hasName_17 rfl (fun c_17 => ?_) (fun c_17 => ?_)
      · rw [tv_ne0] at c_17
        refine ga_iconst dX11_hasName_36 ⟨by decide, by decide⟩ ?_
        refine ga_goto (tgt := 41) dX11_hasName_37 rfl ?_
        exact TAIL 1 (tv1 (hN_s.mpr (Or.inl c_17))).symm
      · rw [tv_eq0] at c_17
        refine ga_aload_n dX11_hasName_20 rfl ?_
        refine hg_getR grX11_7 dX11_hasName_21 rfl rfl ?_
        refine ga_bipush dX11_hasName_24 ⟨by decide, by decide⟩ (by decide) ?_
        refine ga_iload_n dX11_hasName_26 rfl ?_
        refine ga_imul dX11_hasName_27 rfl (⟨by omega, by omega⟩) ?_
        refine ga_iload dX11_hasName_28 rfl ?_
        refine ga_iadd dX11_hasName_30 rfl (⟨by omega, by omega⟩) ?_
        refine hg_iald dX11_hasName_31 rfl (by omega) (by omega) ?_
        refine ga_iload_n dX11_hasName_32 rfl ?_
        refine ga_icmp_ne (tgt := 40) dX11_hasName_33 rfl (fun c_33 => ?_) (fun c_33 => ?_)
        · refine ga_iconst dX11_hasName_40 ⟨by decide, by decide⟩ ?_
          exact TAIL 0 (tvz (fun z => (hN_s.mp z).elim c_17 c_33)).symm
        · refine ga_iconst dX11_hasName_36 ⟨by decide, by decide⟩ ?_
          refine ga_goto (tgt := 41) dX11_hasName_37 rfl ?_
          exact TAIL 1 (tv1 (hN_s.mpr (Or.inr c_33))).symm
