-- the reference: counts
noncomputable def pO (β : ga_S) (x g n : Int) : Int := sz (fun k => tv (gB β (4 * x + k) = g ∧ β.1 69 (4 * x + k) = n)) 4
theorem T_X11_pinsOn (x g n : Int) (σ : ga_S) (h1 : 0 ≤ x) (h2 : x < 60) (hk : 0 ≤ σ.1 66 x ∧ σ.1 66 x < 8) : ga_Mt 1 0 0 mX11_pinsOn [Vr 63, Vi x, Vi g, Vi n] (HP σ) (gis (some (Vi (pO σ x g n))) σ) ga_nox := by
  refine ga_meth [some (Vr 63), some (Vi x), some (Vi g), some (Vi n), none, none] rfl rfl (by decide +kernel) (Nat.le_of_ble_eq_true rfl) rfl ?_
  unfold pO
  have hb := fun m : Nat => sz_b (f := fun k => tv (gB σ (4 * x + k) = g ∧ σ.1 69 (4 * x + k) = n)) (fun _ => tv_le) (n := m)
  refine ga_iconst dX11_pinsOn_0 ⟨by decide, by decide⟩ ?_
  refine ga_istore (lv2 := [_, _, _, _, _, _]) dX11_pinsOn_1 (by decide) rfl rfl ?_
  refine ga_iconst dX11_pinsOn_3 ⟨by decide, by decide⟩ ?_
  refine ga_istore (lv2 := [_, _, _, _, _, _]) dX11_pinsOn_4 (by decide) rfl rfl ?_
  refine (ga_loop 4 (fun i => ga_W 1 0 0 0 0 mX11_pinsOn (gis (some (Vi (sz (fun k => tv (gB σ (4 * x + k) = g ∧ σ.1 69 (4 * x + k) = n)) 4))) σ) ga_nox 6 [some (Vr 63), some (Vi x), some (Vi g), some (Vi n), some (Vi (sz (fun k => tv (gB σ (4 * x + k) = g ∧ σ.1 69 (4 * x + k) = n)) i)), some (Vi (i : Int))] [] (HP σ)) ?_ ?_ 0 (Nat.zero_le _) : _)
  · refine ga_iload dX11_pinsOn_6 rfl ?_
    refine ga_iconst dX11_pinsOn_8 ⟨by decide, by decide⟩ ?_
    refine ga_icmp_ge (tgt := 54) dX11_pinsOn_9 rfl (fun c_9 => ?_) (fun c_9 => ?_)
    · refine ga_iload dX11_pinsOn_54 rfl ?_
      refine ga_ret (v := some _) ?_ rfl (by decide) (by decide) ⟨dX11_pinsOn_56, _, rfl, rfl⟩
      exact ⟨rfl, rfl⟩
    · omega
  · intro i hi k
    have h5 := hb i
    simp only [sz_s _ i] at k
    have TAIL : ∀ v : Int, v = tv (gB σ (4 * x + (i : Int)) = g ∧ σ.1 69 (4 * x + (i : Int)) = n) → ga_W 1 0 0 0 0 mX11_pinsOn (gis (some (Vi (sz (fun k => tv (gB σ (4 * x + k) = g ∧ σ.1 69 (4 * x + k) = n)) 4))) σ) ga_nox 45 [some (Vr 63), some (Vi x), some (Vi g), some (Vi n), some (Vi (sz (fun k => tv (gB σ (4 * x + k) = g ∧ σ.1 69 (4 * x + k) = n)) i)), some (Vi (i : Int))] [Vi v, Vi (sz (fun k => tv (gB σ (4 * x + k) = g ∧ σ.1 69 (4 * x + k) = n)) i)] (HP σ) := by
      intro v hv
      rw [← hv] at k
      have hv2 := tv_le (p := gB σ (4 * x + (i : Int)) = g ∧ σ.1 69 (4 * x + (i : Int)) = n)
      refine ga_iadd dX11_pinsOn_45 rfl (⟨by omega, by omega⟩) ?_
      refine ga_istore (lv2 := [_, _, _, _, _, _]) dX11_pinsOn_46 (by decide) rfl rfl ?_
      refine ga_iinc (z := ((i + 1 : Nat) : Int)) (lv2 := [_, _, _, _, _, _]) dX11_pinsOn_48 (by decide) rfl rfl (by omega) (⟨by omega, by omega⟩) rfl ?_
      refine ga_goto (tgt := 6) dX11_pinsOn_51 rfl ?_
      exact k
    refine ga_iload dX11_pinsOn_6 rfl ?_
    refine ga_iconst dX11_pinsOn_8 ⟨by decide, by decide⟩ ?_
    refine ga_icmp_ge (tgt := 54) dX11_pinsOn_9 rfl (fun c_9 => ?_) (fun c_9 => ?_)
    · omega
    · refine ga_iload dX11_pinsOn_12 rfl ?_
      refine ga_aload_n dX11_pinsOn_14 rfl ?_
      refine ga_iload_n dX11_pinsOn_15 rfl ?_
      refine ga_iload dX11_pinsOn_16 rfl ?_
      refine hc_V (T_X11_group x i σ h1 h2 (by omega) (by omega) hk) fX11_group rfl kX11_group lkX11_107 dX11_pinsOn_18 rfl rfl rfl rfl rfl rfl rfl rfl ?_
      refine ga_iload_n dX11_pinsOn_21 rfl ?_
      refine ga_icmp_ne (tgt := 44) dX11_pinsOn_22 rfl (fun c_22 => ?_) (fun c_22 => ?_)
      · refine ga_iconst dX11_pinsOn_44 ⟨by decide, by decide⟩ ?_
        exact TAIL 0 (tvz (fun z => c_22 z.1)).symm
      · refine ga_aload_n dX11_pinsOn_25 rfl ?_
        refine hg_getR grX11_27 dX11_pinsOn_26 rfl rfl ?_
        refine ga_iconst dX11_pinsOn_29 ⟨by decide, by decide⟩ ?_
        refine ga_iload_n dX11_pinsOn_30 rfl ?_
        refine ga_imul dX11_pinsOn_31 rfl (⟨by omega, by omega⟩) ?_
        refine ga_iload dX11_pinsOn_32 rfl ?_
        refine ga_iadd (z := 4 * x + (i : Int)) dX11_pinsOn_34 (by omega) (⟨by omega, by omega⟩) ?_
        refine hg_iald dX11_pinsOn_35 rfl (by omega) (by omega) ?_
        refine ga_iload_n dX11_pinsOn_36 rfl ?_
        refine ga_icmp_ne (tgt := 44) dX11_pinsOn_37 rfl (fun c_37 => ?_) (fun c_37 => ?_)
        · refine ga_iconst dX11_pinsOn_44 ⟨by decide, by decide⟩ ?_
          exact TAIL 0 (tvz (fun z => c_37 z.2)).symm
        · refine ga_iconst dX11_pinsOn_40 ⟨by decide, by decide⟩ ?_
          refine ga_goto (tgt := 45) dX11_pinsOn_41 rfl ?_
          exact TAIL 1 (tv1 ⟨c_22, c_37⟩).symm
