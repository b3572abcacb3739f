-- the reference: all
theorem T_X11_all (s n : Int) (σ : ga_S) (D : Nat) (h1 : s = 0 ∨ s = 1) (hD : σ.1 70 s = D) (hD2 : D ≤ 30) : ga_Mt 0 0 0 mX11_all [Vr 63, Vi s, Vi n] (HP σ) (gis (some (Vi (allB σ s n))) σ) ga_nox := by
  have hb := fun m : Nat => sz_b (f := fun z => tv (σ.1 68 (30 * s + z / 4) = 0 ∧ σ.1 69 (120 * s + z) = n)) (fun _ => tv_le) (n := m)
  have e : allB σ s n = sz (fun z => tv (σ.1 68 (30 * s + z / 4) = 0 ∧ σ.1 69 (120 * s + z) = n)) (4 * D) := by unfold allB; rw [hD, Int.toNat_natCast]
  rw [e]
  refine ga_meth [some (Vr 63), some (Vi s), some (Vi n), none, none, none] rfl rfl (by decide +kernel) (Nat.le_of_ble_eq_true rfl) rfl ?_
  refine ga_iconst dX11_all_0 ⟨by decide, by decide⟩ ?_
  refine ga_istore_n (lv2 := [_, _, _, _, _, _]) dX11_all_1 (by decide) rfl rfl ?_
  refine ga_bipush dX11_all_2 ⟨by decide, by decide⟩ (by decide) ?_
  refine ga_iload_n dX11_all_4 rfl ?_
  refine ga_imul (z := 30 * s + ((0 : Nat) : Int)) dX11_all_5 (by omega) (⟨by omega, by omega⟩) ?_
  refine ga_istore (lv2 := [_, _, _, _, _, _]) dX11_all_6 (by decide) rfl rfl ?_
  refine (ga_loop D (fun d => ∀ z, ga_W 0 0 0 0 0 mX11_all (gis (some (Vi (sz (fun z => tv (σ.1 68 (30 * s + z / 4) = 0 ∧ σ.1 69 (120 * s + z) = n)) (4 * D)))) σ) ga_nox 8 [some (Vr 63), some (Vi s), some (Vi n), some (Vi (sz (fun z => tv (σ.1 68 (30 * s + z / 4) = 0 ∧ σ.1 69 (120 * s + z) = n)) (4 * d))), some (Vi (30 * s + d)), z] [] (HP σ)) ?_ ?_ 0 (Nat.zero_le _) none : _)
  · intro z
    refine ga_iload dX11_all_8 rfl ?_
    refine ga_bipush dX11_all_10 ⟨by decide, by decide⟩ (by decide) ?_
    refine ga_iload_n dX11_all_12 rfl ?_
    refine ga_imul dX11_all_13 rfl (⟨by omega, by omega⟩) ?_
    refine ga_aload_n dX11_all_14 rfl ?_
    refine hg_getR grX11_30 dX11_all_15 rfl rfl ?_
    refine ga_iload_n dX11_all_18 rfl ?_
    refine hg_iald dX11_all_19 rfl (by omega) (by omega) ?_
    refine ga_iadd dX11_all_20 rfl (⟨by omega, by omega⟩) ?_
    refine ga_icmp_ge (tgt := 79) dX11_all_21 rfl (fun c_21 => ?_) (fun c_21 => ?_)
    · refine ga_iload_n dX11_all_79 rfl ?_
      refine ga_ret (v := some _) ?_ rfl (by decide) (by decide) ⟨dX11_all_80, _, rfl, rfl⟩
      exact ⟨rfl, rfl⟩
    · omega
  · intro d hd k z
    refine ga_iload dX11_all_8 rfl ?_
    refine ga_bipush dX11_all_10 ⟨by decide, by decide⟩ (by decide) ?_
    refine ga_iload_n dX11_all_12 rfl ?_
    refine ga_imul dX11_all_13 rfl (⟨by omega, by omega⟩) ?_
    refine ga_aload_n dX11_all_14 rfl ?_
    refine hg_getR grX11_30 dX11_all_15 rfl rfl ?_
    refine ga_iload_n dX11_all_18 rfl ?_
    refine hg_iald dX11_all_19 rfl (by omega) (by omega) ?_
    refine ga_iadd dX11_all_20 rfl (⟨by omega, by omega⟩) ?_
    refine ga_icmp_ge (tgt := 79) dX11_all_21 rfl (fun c_21 => ?_) (fun c_21 => ?_)
    · omega
    · refine ga_iconst dX11_all_24 ⟨by decide, by decide⟩ ?_
      refine ga_istore (lv2 := [_, _, _, _, _, _]) dX11_all_25 (by decide) rfl rfl ?_
      refine (ga_loop 4 (fun q => ga_W 0 0 0 0 0 mX11_all (gis (some (Vi (sz (fun z => tv (σ.1 68 (30 * s + z / 4) = 0 ∧ σ.1 69 (120 * s + z) = n)) (4 * D)))) σ) ga_nox 27 [some (Vr 63), some (Vi s), some (Vi n), some (Vi (sz (fun z => tv (σ.1 68 (30 * s + z / 4) = 0 ∧ σ.1 69 (120 * s + z) = n)) (4 * d + q))), some (Vi (30 * s + d)), some (Vi (q : Int))] [] (HP σ)) ?_ ?_ 0 (Nat.zero_le _) : _)
      · refine ga_iload dX11_all_27 rfl ?_
        refine ga_iconst dX11_all_29 ⟨by decide, by decide⟩ ?_
        refine ga_icmp_ge (tgt := 73) dX11_all_30 rfl (fun c_30 => ?_) (fun c_30 => ?_)
        · refine ga_iinc (z := 30 * s + ((d + 1 : Nat) : Int)) (lv2 := [_, _, _, _, _, _]) dX11_all_73 (by decide) rfl rfl (by omega) (⟨by omega, by omega⟩) rfl ?_
          refine ga_goto (tgt := 8) dX11_all_76 rfl ?_
          exact k _
        · omega
      · intro q hq k2
        have h5 := hb (4 * d + q)
        rw [show 4 * d + (q + 1) = 4 * d + q + 1 by omega] at k2
        simp only [sz_s _ (4 * d + q)] at k2
        rw [show ((4 * d + q : Nat) : Int) / 4 = d by omega, show 120 * s + ((4 * d + q : Nat) : Int) = 4 * (30 * s + d) + q by omega] at k2
        refine ga_iload dX11_all_27 rfl ?_
        refine ga_iconst dX11_all_29 ⟨by decide, by decide⟩ ?_
        refine ga_icmp_ge (tgt := 73) dX11_all_30 rfl (fun c_30 => ?_) (fun c_30 => ?_)
        · omega
        · refine ga_aload_n dX11_all_33 rfl ?_
          refine hg_getR grX11_23 dX11_all_34 rfl rfl ?_
          refine ga_iload dX11_all_37 rfl ?_
          refine hg_zald dX11_all_39 rfl (by omega) (by omega) ?_
          refine ga_if_ne (tgt := 73) dX11_all_40 rfl (fun c_40 => ?_) (fun c_40 => ?_)
          · have key : ∀ r : Nat, q + r ≤ 4 → sz (fun z => tv (σ.1 68 (30 * s + z / 4) = 0 ∧ σ.1 69 (120 * s + z) = n)) (4 * d + q + r) = sz (fun z => tv (σ.1 68 (30 * s + z / 4) = 0 ∧ σ.1 69 (120 * s + z) = n)) (4 * d + q) := by
              intro r
              induction r with
              | zero => intro _; rfl
              | succ r ih =>
                intro hr
                rw [← Nat.add_assoc, sz_s, ih (by omega), tvz (fun z => c_40 (by rw [← show ((4 * d + q + r : Nat) : Int) / 4 = d by omega]; exact z.1)), Int.add_zero]
            have e3 := key (4 - q) (by omega)
            rw [show 4 * d + q + (4 - q) = 4 * (d + 1) by omega] at e3
            refine ga_iinc (z := 30 * s + ((d + 1 : Nat) : Int)) (lv2 := [_, _, _, _, _, _]) dX11_all_73 (by decide) rfl rfl (by omega) (⟨by omega, by omega⟩) rfl ?_
            refine ga_goto (tgt := 8) dX11_all_76 rfl ?_
            rw [← e3]
            exact k _
          · have TAIL : ∀ v : Int, v = tv (σ.1 68 (30 * s + (d : Int)) = 0 ∧ σ.1 69 (4 * (30 * s + (d : Int)) + q) = n) → ga_W 0 0 0 0 0 mX11_all (gis (some (Vi (sz (fun z => tv (σ.1 68 (30 * s + z / 4) = 0 ∧ σ.1 69 (120 * s + z) = n)) (4 * D)))) σ) ga_nox 65 [some (Vr 63), some (Vi s), some (Vi n), some (Vi (sz (fun z => tv (σ.1 68 (30 * s + z / 4) = 0 ∧ σ.1 69 (120 * s + z) = n)) (4 * d + q))), some (Vi (30 * s + d)), some (Vi (q : Int))] [Vi v, Vi (sz (fun z => tv (σ.1 68 (30 * s + z / 4) = 0 ∧ σ.1 69 (120 * s + z) = n)) (4 * d + q))] (HP σ) := by
              intro v hv
              have hv2 := tv_le (p := σ.1 68 (30 * s + (d : Int)) = 0 ∧ σ.1 69 (4 * (30 * s + (d : Int)) + q) = n)
              rw [← hv] at k2
              refine ga_iadd dX11_all_65 rfl (⟨by omega, by omega⟩) ?_
              refine ga_istore_n (lv2 := [_, _, _, _, _, _]) dX11_all_66 (by decide) rfl rfl ?_
              refine ga_iinc (z := ((q + 1 : Nat) : Int)) (lv2 := [_, _, _, _, _, _]) dX11_all_67 (by decide) rfl rfl (by omega) (⟨by omega, by omega⟩) rfl ?_
              refine ga_goto (tgt := 27) dX11_all_70 rfl ?_
              exact k2
            refine ga_iload_n dX11_all_43 rfl ?_
            refine ga_aload_n dX11_all_44 rfl ?_
            refine hg_getR grX11_27 dX11_all_45 rfl rfl ?_
            refine ga_iconst dX11_all_48 ⟨by decide, by decide⟩ ?_
            refine ga_iload dX11_all_49 rfl ?_
            refine ga_imul dX11_all_51 rfl (⟨by omega, by omega⟩) ?_
            refine ga_iload dX11_all_52 rfl ?_
            refine ga_iadd dX11_all_54 rfl (⟨by omega, by omega⟩) ?_
            refine hg_iald dX11_all_55 rfl (by omega) (by omega) ?_
            refine ga_iload_n dX11_all_56 rfl ?_
            refine ga_icmp_ne (tgt := 64) dX11_all_57 rfl (fun c_57 => ?_) (fun c_57 => ?_)
            · refine ga_iconst dX11_all_64 ⟨by decide, by decide⟩ ?_
              exact TAIL 0 (tvz (fun z => c_57 z.2)).symm
            · refine ga_iconst dX11_all_60 ⟨by decide, by decide⟩ ?_
              refine ga_goto (tgt := 65) dX11_all_61 rfl ?_
              exact TAIL 1 (tv1 ⟨c_40, c_57⟩).symm
