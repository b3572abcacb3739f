-- Joining
noncomputable def pc4 (pins grp kind : Int → Int) (d g n : Int) : Int := sz (fun k => tv (pins (d * 4 + k) = n ∧ grp (kind d * 4 + k) = g)) 4
def parP (pins grp kind : Int → Int) (a b : Int) : Prop := ∀ k : Nat, k < 4 → pc4 pins grp kind a (grp (kind a * 4 + k)) (pins (a * 4 + k)) = pc4 pins grp kind b (grp (kind a * 4 + k)) (pins (a * 4 + k))
def twoP (pins grp kind : Int → Int) (d : Int) : Prop := pins (d * 4 + 0) ≠ -1 ∧ pins (d * 4 + 1) ≠ -1 ∧ pins (d * 4 + 2) = -1 ∧ pins (d * 4 + 3) = -1 ∧ grp (kind d * 4 + 0) = grp (kind d * 4 + 1)
/-- how many of the first e pins, of devices that are not gone, are on net n -/
noncomputable def paN (gone pins : Int → Int) (e : Nat) (n : Int) : Int := sz (fun z => tv (gone (z / 4) = 0 ∧ pins z = n)) e
noncomputable def paF (gone pins old : Int → Int) (e : Nat) : Int → Int := fun j => if 0 ≤ j ∧ j < 40 then paN gone pins e j else old j
def betC (pa port pins : Int → Int) (a b k : Int) : Prop := port (pins (a * 4 + k)) = -1 ∧ pa (pins (a * 4 + k)) = 2 ∧ pins (a * 4 + (1 - k)) ≠ pins (a * 4 + k) ∧ (pins (b * 4 + 0) = pins (a * 4 + k) ∨ pins (b * 4 + 1) = pins (a * 4 + k))
noncomputable def betF (pa port pins : Int → Int) (a b : Int) : Nat → Int
  | 0 => -1
  | k + 1 => @ite Int (betC pa port pins a b k ∧ (betF pa port pins a b k = -1 ∨ pins (a * 4 + k) < betF pa port pins a b k)) (Classical.propDecidable _) (pins (a * 4 + k)) (betF pa port pins a b k)
theorem betF_s (pa port pins : Int → Int) (a b : Int) (k : Nat) : betF pa port pins a b (k + 1) = @ite Int (betC pa port pins a b k ∧ (betF pa port pins a b k = -1 ∨ pins (a * 4 + k) < betF pa port pins a b k)) (Classical.propDecidable _) (pins (a * 4 + k)) (betF pa port pins a b k) := rfl
theorem betF_or (pa port pins : Int → Int) (a b : Int) : ∀ k : Nat, betF pa port pins a b k = -1 ∨ ∃ j : Nat, j < k ∧ betF pa port pins a b k = pins (a * 4 + j) ∧ betC pa port pins a b j
  | 0 => Or.inl rfl
  | k + 1 => by
    rw [betF]
    by_cases h : betC pa port pins a b k ∧ (betF pa port pins a b k = -1 ∨ pins (a * 4 + k) < betF pa port pins a b k)
    · rw [if_pos h]
      exact Or.inr ⟨k, by omega, rfl, h.1⟩
    · rw [if_neg h]
      rcases betF_or pa port pins a b k with q | ⟨j, h1, h2, h3⟩
      · exact Or.inl q
      · exact Or.inr ⟨j, by omega, h2, h3⟩
def serC (a b : UInt64) : UInt64 := if dcg a FP.dconst0 ≤ 0 ∨ dcg b FP.dconst0 ≤ 0 then FP.dconst0 else serF a b
theorem T_X3_sizeInSeries (a b : UInt64) (ha : SzG a) (hb : SzG b) (h : ga_H) : ga_Mt 0 0 0 mX3_sizeInSeries [Vd a, Vd b] h (fun v2 h2 => v2 = some (Vd (serC a b)) ∧ h2 = h) ga_nox := by
  refine ga_meth [some (Vd a), none, some (Vd b), none] rfl rfl (by decide +kernel) (Nat.le_of_ble_eq_true rfl) rfl ?_
  refine ga_dload_n dX3_sizeInSeries_0 rfl ?_
  refine ga_dconst0 dX3_sizeInSeries_1 ?_
  refine ga_dcmp dX3_sizeInSeries_2 (ga_ofI _).symm (ga_inI32 _) ?_
  refine ga_if_le (tgt := 12) dX3_sizeInSeries_3 rfl (fun c_3 => ?_) (fun c_3 => ?_)
  · refine ga_dconst0 dX3_sizeInSeries_12 ?_
    refine ga_ret (v := some _) ?_ rfl (by decide) (by decide) ⟨dX3_sizeInSeries_13, rfl⟩
    exact ⟨by unfold serC; rw [if_pos (Or.inl c_3)], rfl⟩
  · refine ga_dload_n dX3_sizeInSeries_6 rfl ?_
    refine ga_dconst0 dX3_sizeInSeries_7 ?_
    refine ga_dcmp dX3_sizeInSeries_8 (ga_ofI _).symm (ga_inI32 _) ?_
    refine ga_if_gt (tgt := 14) dX3_sizeInSeries_9 rfl (fun c_9 => ?_) (fun c_9 => ?_)
    · refine ga_dconst1 dX3_sizeInSeries_14 ?_
      refine ga_dconst1 dX3_sizeInSeries_15 ?_
      refine ga_dload_n dX3_sizeInSeries_16 rfl ?_
      refine ga_ddiv dX3_sizeInSeries_17 (SzG_n64 (SzG_inv ha)) ?_
      refine ga_dconst1 dX3_sizeInSeries_18 ?_
      refine ga_dload_n dX3_sizeInSeries_19 rfl ?_
      refine ga_ddiv dX3_sizeInSeries_20 (SzG_n64 (SzG_inv hb)) ?_
      refine ga_dadd dX3_sizeInSeries_21 (SzG_n64 (SzG_add (SzG_inv ha) (SzG_inv hb))) ?_
      refine ga_ddiv dX3_sizeInSeries_22 (SzG_n64 (SzG_ser ha hb)) ?_
      refine ga_ret (v := some _) ?_ rfl (by decide) (by decide) ⟨dX3_sizeInSeries_23, rfl⟩
      exact ⟨by unfold serC; rw [if_neg (fun z => z.elim c_3 c_9)]; rfl, rfl⟩
    · refine ga_dconst0 dX3_sizeInSeries_12 ?_
      refine ga_ret (v := some _) ?_ rfl (by decide) (by decide) ⟨dX3_sizeInSeries_13, rfl⟩
      exact ⟨by unfold serC; rw [if_pos (Or.inr c_9)], rfl⟩
theorem paN_s (gone pins : Int → Int) (e : Nat) (n : Int) : paN gone pins (e + 1) n = paN gone pins e n + tv (gone ((e : Int) / 4) = 0 ∧ pins e = n) := rfl
theorem paN_b (gone pins : Int → Int) (e : Nat) (n : Int) : 0 ≤ paN gone pins e n ∧ paN gone pins e n ≤ e := sz_b (fun _ => tv_le)
theorem paF_s_no {gone pins old : Int → Int} {e : Nat} (h : ¬ gone ((e : Int) / 4) = 0 ∨ pins e = -1) : paF gone pins old (e + 1) = paF gone pins old e := by
  funext j
  unfold paF
  split
  · rename_i hj
    rw [paN_s, tvz, Int.add_zero]
    rintro ⟨h1, h2⟩
    rcases h with h | h
    · exact h h1
    · omega
  · rfl
theorem paF_s_yes {gone pins old : Int → Int} {e : Nat} (h : gone ((e : Int) / 4) = 0) (h2 : 0 ≤ pins e ∧ pins e < 40) : ga_up (paF gone pins old e) (pins e) (paF gone pins old e (pins e) + 1) = paF gone pins old (e + 1) := by
  funext j
  unfold ga_up
  split
  · rename_i hj
    unfold paF
    rw [if_pos h2, if_pos (by omega), hj, paN_s, tv1 ⟨h, rfl⟩]
  · rename_i hj
    unfold paF
    split
    · rw [paN_s, tvz (fun z => hj z.2.symm), Int.add_zero]
    · rfl
theorem T_X3_countPins_2 (σ : ga_S) (N D : Nat) (hN2 : N ≤ 40) (hD : σ.1 2 3 = D) (hD2 : D ≤ 30) (hpin : ∀ j : Int, 0 ≤ j → j < 4 * D → -1 ≤ σ.1 8 j ∧ σ.1 8 j < N) : ga_Mt 1 0 0 mX3_countPins [Vr 19, Vr 2] (HP σ) (gis none (stI σ 20 (paF (σ.1 7) (σ.1 8) (σ.1 20) (4 * D)))) ga_nox := by
  refine ga_meth [some (Vr 19), some (Vr 2), none, none, none] rfl rfl (by decide +kernel) (Nat.le_of_ble_eq_true rfl) rfl ?_
  refine ga_aload_n dX3_countPins_0 rfl ?_
  refine hg_getR grX3_9 dX3_countPins_1 rfl rfl ?_
  refine ga_iconst dX3_countPins_4 ⟨by decide, by decide⟩ ?_
  refine hc_Sv (T_J7_fill rfl (by decide)) fJ7_fill_53178 rfl kJ7_fill_53178 lkX3_37 dX3_countPins_5 rfl rfl rfl rfl rfl rfl ?_
  have e0 : fillF (σ.1 20) ((40 : Nat) : Int) 0 = paF (σ.1 7) (σ.1 8) (σ.1 20) 0 := by
    funext j; unfold fillF paF; rfl
  rw [e0]
  refine ga_iconst dX3_countPins_8 ⟨by decide, by decide⟩ ?_
  refine ga_istore_n (lv2 := [_, _, _, _, _]) dX3_countPins_9 (by decide) rfl rfl ?_
  refine (ga_loop D (fun i => ∀ y z, ga_W 1 0 0 0 0 mX3_countPins (gis none (stI σ 20 (paF (σ.1 7) (σ.1 8) (σ.1 20) (4 * D)))) ga_nox 10 [some (Vr 19), some (Vr 2), some (Vi (i : Int)), y, z] [] (HP (stI σ 20 (paF (σ.1 7) (σ.1 8) (σ.1 20) (4 * i))))) ?_ ?_ 0 (Nat.zero_le _) _ _ : _)
  · intro y z
    have hD9 : (stI σ 20 (paF (σ.1 7) (σ.1 8) (σ.1 20) (4 * D))).1 2 3 = D := hD
    refine ga_iload_n dX3_countPins_10 rfl ?_
    refine ga_aload_n dX3_countPins_11 rfl ?_
    refine hg_getI 3 grX3_23 dX3_countPins_12 rfl rfl rfl ?_
    refine ga_icmp_ge (tgt := 71) dX3_countPins_15 rfl (fun c_15 => ?_) (fun c_15 => ?_)
    · refine ga_ret (v := none) ?_ rfl (by decide) (by decide) ⟨dX3_countPins_71, rfl⟩
      exact ⟨rfl, rfl⟩
    · omega
  · intro i hi k y z
    have hD9 : (stI σ 20 (paF (σ.1 7) (σ.1 8) (σ.1 20) (4 * i))).1 2 3 = D := hD
    refine ga_iload_n dX3_countPins_10 rfl ?_
    refine ga_aload_n dX3_countPins_11 rfl ?_
    refine hg_getI 3 grX3_23 dX3_countPins_12 rfl rfl rfl ?_
    refine ga_icmp_ge (tgt := 71) dX3_countPins_15 rfl (fun c_15 => ?_) (fun c_15 => ?_)
    · omega
    · refine ga_iconst dX3_countPins_18 ⟨by decide, by decide⟩ ?_
      refine ga_istore_n (lv2 := [_, _, _, _, _]) dX3_countPins_19 (by decide) rfl rfl ?_
      refine (ga_loop 4 (fun q => ∀ z, ga_W 1 0 0 0 0 mX3_countPins (gis none (stI σ 20 (paF (σ.1 7) (σ.1 8) (σ.1 20) (4 * D)))) ga_nox 20 [some (Vr 19), some (Vr 2), some (Vi (i : Int)), some (Vi (q : Int)), z] [] (HP (stI σ 20 (paF (σ.1 7) (σ.1 8) (σ.1 20) (4 * i + q))))) ?_ ?_ 0 (Nat.zero_le _) _ : _)
      · intro z
        rw [show 4 * i + 4 = 4 * (i + 1) by omega]
        refine ga_iload_n dX3_countPins_20 rfl ?_
        refine ga_iconst dX3_countPins_21 ⟨by decide, by decide⟩ ?_
        refine ga_icmp_ge (tgt := 65) dX3_countPins_22 rfl (fun c_22 => ?_) (fun c_22 => ?_)
        · refine ga_iinc (z := ((i + 1 : Nat) : Int)) (lv2 := [_, _, _, _, _]) dX3_countPins_65 (by decide) rfl rfl (by omega) (⟨by omega, by omega⟩) rfl ?_
          refine ga_goto (tgt := 10) dX3_countPins_68 rfl ?_
          exact k _ _
        · omega
      · intro q hq k2 z
        have hpq := hpin ((4 * i + q : Nat) : Int) (by omega) (by omega)
        have hbb := paN_b (σ.1 7) (σ.1 8) (4 * i + q) (σ.1 8 ((4 * i + q : Nat) : Int))
        refine ga_iload_n dX3_countPins_20 rfl ?_
        refine ga_iconst dX3_countPins_21 ⟨by decide, by decide⟩ ?_
        refine ga_icmp_ge (tgt := 65) dX3_countPins_22 rfl (fun c_22 => ?_) (fun c_22 => ?_)
        · omega
        · refine ga_aload_n dX3_countPins_25 rfl ?_
          refine hg_getR grX3_43 dX3_countPins_26 rfl rfl ?_
          refine ga_iload_n dX3_countPins_29 rfl ?_
          refine hg_zald dX3_countPins_30 rfl (by omega) (by omega) ?_
          refine ga_if_ne (tgt := 65) dX3_countPins_31 rfl (fun c_31 => ?_) (fun c_31 => ?_)
          · have c9 : ¬ σ.1 7 (i : Int) = 0 := c_31
            have key : ∀ r : Nat, q + r ≤ 4 → paF (σ.1 7) (σ.1 8) (σ.1 20) (4 * i + q + r) = paF (σ.1 7) (σ.1 8) (σ.1 20) (4 * i + q) := by
              intro r
              induction r with
              | zero => intro _; rfl
              | succ r ih =>
                intro hr
                rw [← ih (by omega), ← Nat.add_assoc]
                exact paF_s_no (Or.inl (by rw [show ((4 * i + q + r : Nat) : Int) / 4 = i by omega]; exact c9))
            have e3 := key (4 - q) (by omega)
            rw [show 4 * i + q + (4 - q) = 4 * (i + 1) by omega] at e3
            refine ga_iinc (z := ((i + 1 : Nat) : Int)) (lv2 := [_, _, _, _, _]) dX3_countPins_65 (by decide) rfl rfl (by omega) (⟨by omega, by omega⟩) rfl ?_
            refine ga_goto (tgt := 10) dX3_countPins_68 rfl ?_
            rw [← e3]
            exact k _ _
          · have c9 : σ.1 7 (i : Int) = 0 := c_31
            refine ga_aload_n dX3_countPins_34 rfl ?_
            refine ga_iload_n dX3_countPins_35 rfl ?_
            refine ga_iload_n dX3_countPins_36 rfl ?_
            refine hc_V (T_X9_netOf_2 i q _ (by omega) (by omega) (by omega) (by omega)) fX9_netOf rfl kX9_netOf lkX3_47 dX3_countPins_37 rfl rfl rfl rfl rfl rfl rfl rfl ?_
            refine ga_istore (lv2 := [_, _, _, _, _]) dX3_countPins_40 (by decide) rfl rfl ?_
            refine ga_iload dX3_countPins_42 rfl ?_
            refine ga_iconst dX3_countPins_44 ⟨by decide, by decide⟩ ?_
            refine ga_icmp_eq (tgt := 59) dX3_countPins_45 rfl (fun c_45 => ?_) (fun c_45 => ?_)
            · have c8 : σ.1 8 ((i : Int) * 4 + q) = -1 := c_45
              rw [show (i : Int) * 4 + q = ((4 * i + q : Nat) : Int) by omega] at c8
              have e3 := paF_s_no (gone := σ.1 7) (old := σ.1 20) (Or.inr c8)
              refine ga_iinc (z := ((q + 1 : Nat) : Int)) (lv2 := [_, _, _, _, _]) dX3_countPins_59 (by decide) rfl rfl (by omega) (⟨by omega, by omega⟩) rfl ?_
              refine ga_goto (tgt := 20) dX3_countPins_62 rfl ?_
              rw [← e3]
              exact k2 _
            · have c8 : ¬ σ.1 8 ((i : Int) * 4 + q) = -1 := c_45
              have e7 : (stI σ 20 (paF (σ.1 7) (σ.1 8) (σ.1 20) (4 * i + q))).1 8 ((i : Int) * 4 + q) = σ.1 8 ((4 * i + q : Nat) : Int) := by rw [show (i : Int) * 4 + q = ((4 * i + q : Nat) : Int) by omega]; rfl
              rw [show (i : Int) * 4 + q = ((4 * i + q : Nat) : Int) by omega] at c8
              have e6 : paF (σ.1 7) (σ.1 8) (σ.1 20) (4 * i + q) (σ.1 8 ((4 * i + q : Nat) : Int)) = paN (σ.1 7) (σ.1 8) (4 * i + q) (σ.1 8 ((4 * i + q : Nat) : Int)) := if_pos (by omega)
              have e3 := paF_s_yes (gone := σ.1 7) (pins := σ.1 8) (old := σ.1 20) (e := 4 * i + q) (by rw [show ((4 * i + q : Nat) : Int) / 4 = i by omega]; exact c9) (by omega)
              rw [e7]
              refine ga_aload_n dX3_countPins_48 rfl ?_
              refine hg_getR grX3_9 dX3_countPins_49 rfl rfl ?_
              refine ga_iload dX3_countPins_52 rfl ?_
              refine ga_dup2 dX3_countPins_54 rfl rfl ?_
              refine hg_iald dX3_countPins_55 rfl (by omega) (by omega) ?_
              refine ga_iconst dX3_countPins_56 ⟨by decide, by decide⟩ ?_
              rw [stI_at]
              refine ga_iadd dX3_countPins_57 rfl (by rw [e6]; exact ⟨by omega, by omega⟩) ?_
              refine hg_iast dX3_countPins_58 rfl (by omega) (by omega) ?_
              refine ga_iinc (z := ((q + 1 : Nat) : Int)) (lv2 := [_, _, _, _, _]) dX3_countPins_59 (by decide) rfl rfl (by omega) (⟨by omega, by omega⟩) rfl ?_
              refine ga_goto (tgt := 20) dX3_countPins_62 rfl ?_
              rw [stI_st, stI_at, e3]
              exact k2 _
theorem T_X3_areOfOneKind_2 (a b : Int) (σ : ga_S) (h1 : 0 ≤ a) (h2 : a < 30) (h3 : 0 ≤ b) (h4 : b < 30) : ga_Mt 0 0 0 mX3_areOfOneKind [Vr 2, Vi a, Vi b] (HP σ) (gis (some (Vi (tv (σ.1 7 a = 0 ∧ σ.1 7 b = 0 ∧ σ.1 5 a = σ.1 5 b)))) σ) ga_nox := by
  refine ga_meth [some (Vr 2), some (Vi a), some (Vi b)] rfl rfl (by decide +kernel) (Nat.le_of_ble_eq_true rfl) rfl ?_
  refine ga_aload_n dX3_areOfOneKind_0 rfl ?_
  refine hg_getR grX3_43 dX3_areOfOneKind_1 rfl rfl ?_
  refine ga_iload_n dX3_areOfOneKind_4 rfl ?_
  refine hg_zald dX3_areOfOneKind_5 rfl (by omega) (by omega) ?_
  refine ga_if_ne (tgt := 37) dX3_areOfOneKind_6 rfl (fun c_6 => ?_) (fun c_6 => ?_)
  · refine ga_iconst dX3_areOfOneKind_37 ⟨by decide, by decide⟩ ?_
    refine ga_ret (v := some _) ?_ rfl (by decide) (by decide) ⟨dX3_areOfOneKind_38, _, rfl, rfl⟩
    exact ⟨tvf (fun z => c_6 z.1), rfl⟩
  · refine ga_aload_n dX3_areOfOneKind_9 rfl ?_
    refine hg_getR grX3_43 dX3_areOfOneKind_10 rfl rfl ?_
    refine ga_iload_n dX3_areOfOneKind_13 rfl ?_
    refine hg_zald dX3_areOfOneKind_14 rfl (by omega) (by omega) ?_
    refine ga_if_ne (tgt := 37) dX3_areOfOneKind_15 rfl (fun c_15 => ?_) (fun c_15 => ?_)
    · refine ga_iconst dX3_areOfOneKind_37 ⟨by decide, by decide⟩ ?_
      refine ga_ret (v := some _) ?_ rfl (by decide) (by decide) ⟨dX3_areOfOneKind_38, _, rfl, rfl⟩
      exact ⟨tvf (fun z => c_15 z.2.1), rfl⟩
    · refine ga_aload_n dX3_areOfOneKind_18 rfl ?_
      refine hg_getR grX3_51 dX3_areOfOneKind_19 rfl rfl ?_
      refine ga_iload_n dX3_areOfOneKind_22 rfl ?_
      refine hg_iald dX3_areOfOneKind_23 rfl (by omega) (by omega) ?_
      refine ga_aload_n dX3_areOfOneKind_24 rfl ?_
      refine hg_getR grX3_51 dX3_areOfOneKind_25 rfl rfl ?_
      refine ga_iload_n dX3_areOfOneKind_28 rfl ?_
      refine hg_iald dX3_areOfOneKind_29 rfl (by omega) (by omega) ?_
      refine ga_icmp_ne (tgt := 37) dX3_areOfOneKind_30 rfl (fun c_30 => ?_) (fun c_30 => ?_)
      · refine ga_iconst dX3_areOfOneKind_37 ⟨by decide, by decide⟩ ?_
        refine ga_ret (v := some _) ?_ rfl (by decide) (by decide) ⟨dX3_areOfOneKind_38, _, rfl, rfl⟩
        exact ⟨tvf (fun z => c_30 z.2.2), rfl⟩
      · refine ga_iconst dX3_areOfOneKind_33 ⟨by decide, by decide⟩ ?_
        refine ga_goto (tgt := 38) dX3_areOfOneKind_34 rfl ?_
        refine ga_ret (v := some _) ?_ rfl (by decide) (by decide) ⟨dX3_areOfOneKind_38, _, rfl, rfl⟩
        exact ⟨tvt ⟨c_6, c_15, c_30⟩, rfl⟩
theorem T_X3_hasTwoEnds_2 (d : Int) (σ : ga_S) (h1 : 0 ≤ d) (h2 : d < 30) (h3 : 0 ≤ σ.1 5 d) (h4 : σ.1 5 d < 8) : ga_Mt 1 0 0 mX3_hasTwoEnds [Vr 2, Vr 16, Vi d] (HP σ) (gis (some (Vi (tv (twoP (σ.1 8) (σ.1 17) (σ.1 5) d)))) σ) ga_nox := by
  refine ga_meth [some (Vr 2), some (Vr 16), some (Vi d), none] rfl rfl (by decide +kernel) (Nat.le_of_ble_eq_true rfl) rfl ?_
  refine ga_aload_n dX3_hasTwoEnds_0 rfl ?_
  refine hg_getR grX3_51 dX3_hasTwoEnds_1 rfl rfl ?_
  refine ga_iload_n dX3_hasTwoEnds_4 rfl ?_
  refine hg_iald dX3_hasTwoEnds_5 rfl (by omega) (by omega) ?_
  refine ga_istore_n (lv2 := [_, _, _, _]) dX3_hasTwoEnds_6 (by decide) rfl rfl ?_
  refine ga_aload_n dX3_hasTwoEnds_7 rfl ?_
  refine ga_iload_n dX3_hasTwoEnds_8 rfl ?_
  refine ga_iconst dX3_hasTwoEnds_9 ⟨by decide, by decide⟩ ?_
  refine hc_V (T_X9_netOf_2 d 0 σ h1 h2 (by decide) (by decide)) fX9_netOf rfl kX9_netOf lkX3_47 dX3_hasTwoEnds_10 rfl rfl rfl rfl rfl rfl rfl rfl ?_
  refine ga_iconst dX3_hasTwoEnds_13 ⟨by decide, by decide⟩ ?_
  refine ga_icmp_eq (tgt := 66) dX3_hasTwoEnds_14 rfl (fun c_14 => ?_) (fun c_14 => ?_)
  · refine ga_iconst dX3_hasTwoEnds_66 ⟨by decide, by decide⟩ ?_
    refine ga_ret (v := some _) ?_ rfl (by decide) (by decide) ⟨dX3_hasTwoEnds_67, _, rfl, rfl⟩
    exact ⟨tvf (fun z => z.1 c_14), rfl⟩
  · refine ga_aload_n dX3_hasTwoEnds_17 rfl ?_
    refine ga_iload_n dX3_hasTwoEnds_18 rfl ?_
    refine ga_iconst dX3_hasTwoEnds_19 ⟨by decide, by decide⟩ ?_
    refine hc_V (T_X9_netOf_2 d 1 σ h1 h2 (by decide) (by decide)) fX9_netOf rfl kX9_netOf lkX3_47 dX3_hasTwoEnds_20 rfl rfl rfl rfl rfl rfl rfl rfl ?_
    refine ga_iconst dX3_hasTwoEnds_23 ⟨by decide, by decide⟩ ?_
    refine ga_icmp_eq (tgt := 66) dX3_hasTwoEnds_24 rfl (fun c_24 => ?_) (fun c_24 => ?_)
    · refine ga_iconst dX3_hasTwoEnds_66 ⟨by decide, by decide⟩ ?_
      refine ga_ret (v := some _) ?_ rfl (by decide) (by decide) ⟨dX3_hasTwoEnds_67, _, rfl, rfl⟩
      exact ⟨tvf (fun z => z.2.1 c_24), rfl⟩
    · refine ga_aload_n dX3_hasTwoEnds_27 rfl ?_
      refine ga_iload_n dX3_hasTwoEnds_28 rfl ?_
      refine ga_iconst dX3_hasTwoEnds_29 ⟨by decide, by decide⟩ ?_
      refine hc_V (T_X9_netOf_2 d 2 σ h1 h2 (by decide) (by decide)) fX9_netOf rfl kX9_netOf lkX3_47 dX3_hasTwoEnds_30 rfl rfl rfl rfl rfl rfl rfl rfl ?_
      refine ga_iconst dX3_hasTwoEnds_33 ⟨by decide, by decide⟩ ?_
      refine ga_icmp_ne (tgt := 66) dX3_hasTwoEnds_34 rfl (fun c_34 => ?_) (fun c_34 => ?_)
      · refine ga_iconst dX3_hasTwoEnds_66 ⟨by decide, by decide⟩ ?_
        refine ga_ret (v := some _) ?_ rfl (by decide) (by decide) ⟨dX3_hasTwoEnds_67, _, rfl, rfl⟩
        exact ⟨tvf (fun z => c_34 z.2.2.1), rfl⟩
      · refine ga_aload_n dX3_hasTwoEnds_37 rfl ?_
        refine ga_iload_n dX3_hasTwoEnds_38 rfl ?_
        refine ga_iconst dX3_hasTwoEnds_39 ⟨by decide, by decide⟩ ?_
        refine hc_V (T_X9_netOf_2 d 3 σ h1 h2 (by decide) (by decide)) fX9_netOf rfl kX9_netOf lkX3_47 dX3_hasTwoEnds_40 rfl rfl rfl rfl rfl rfl rfl rfl ?_
        refine ga_iconst dX3_hasTwoEnds_43 ⟨by decide, by decide⟩ ?_
        refine ga_icmp_ne (tgt := 66) dX3_hasTwoEnds_44 rfl (fun c_44 => ?_) (fun c_44 => ?_)
        · refine ga_iconst dX3_hasTwoEnds_66 ⟨by decide, by decide⟩ ?_
          refine ga_ret (v := some _) ?_ rfl (by decide) (by decide) ⟨dX3_hasTwoEnds_67, _, rfl, rfl⟩
          exact ⟨tvf (fun z => c_44 z.2.2.2.1), rfl⟩
        · refine ga_aload_n dX3_hasTwoEnds_47 rfl ?_
          refine ga_iload_n dX3_hasTwoEnds_48 rfl ?_
          refine ga_iconst dX3_hasTwoEnds_49 ⟨by decide, by decide⟩ ?_
          refine hc_V (T_X4_groupOf (σ.1 5 d) 0 σ h3 h4 (by decide) (by decide)) fX4_groupOf rfl kX4_groupOf lkX3_61 dX3_hasTwoEnds_50 rfl rfl rfl rfl rfl rfl rfl rfl ?_
          refine ga_aload_n dX3_hasTwoEnds_53 rfl ?_
          refine ga_iload_n dX3_hasTwoEnds_54 rfl ?_
          refine ga_iconst dX3_hasTwoEnds_55 ⟨by decide, by decide⟩ ?_
          refine hc_V (T_X4_groupOf (σ.1 5 d) 1 σ h3 h4 (by decide) (by decide)) fX4_groupOf rfl kX4_groupOf lkX3_61 dX3_hasTwoEnds_56 rfl rfl rfl rfl rfl rfl rfl rfl ?_
          refine ga_icmp_ne (tgt := 66) dX3_hasTwoEnds_59 rfl (fun c_59 => ?_) (fun c_59 => ?_)
          · refine ga_iconst dX3_hasTwoEnds_66 ⟨by decide, by decide⟩ ?_
            refine ga_ret (v := some _) ?_ rfl (by decide) (by decide) ⟨dX3_hasTwoEnds_67, _, rfl, rfl⟩
            exact ⟨tvf (fun z => c_59 z.2.2.2.2), rfl⟩
          · refine ga_iconst dX3_hasTwoEnds_62 ⟨by decide, by decide⟩ ?_
            refine ga_goto (tgt := 67) dX3_hasTwoEnds_63 rfl ?_
            refine ga_ret (v := some _) ?_ rfl (by decide) (by decide) ⟨dX3_hasTwoEnds_67, _, rfl, rfl⟩
            exact ⟨tvt ⟨c_14, c_24, c_34, c_44, c_59⟩, rfl⟩
theorem T_X3_netBetween_2 (a b : Int) (σ : ga_S) (h1 : 0 ≤ a) (h2 : a < 30) (h3 : 0 ≤ b) (h4 : b < 30) (hp0 : 0 ≤ σ.1 8 (a * 4 + 0) ∧ σ.1 8 (a * 4 + 0) < 40) (hp1 : 0 ≤ σ.1 8 (a * 4 + 1) ∧ σ.1 8 (a * 4 + 1) < 40) : ga_Mt 1 0 0 mX3_netBetween [Vr 19, Vr 2, Vi a, Vi b] (HP σ) (gis (some (Vi (betF (σ.1 20) (σ.1 3) (σ.1 8) a b 2))) σ) ga_nox := by
  refine ga_meth [some (Vr 19), some (Vr 2), some (Vi a), some (Vi b), none, none, none, none] rfl rfl (by decide +kernel) (Nat.le_of_ble_eq_true rfl) rfl ?_
  refine ga_iconst dX3_netBetween_0 ⟨by decide, by decide⟩ ?_
  refine ga_istore (lv2 := [_, _, _, _, _, _, _, _]) dX3_netBetween_1 (by decide) rfl rfl ?_
  refine ga_iconst dX3_netBetween_3 ⟨by decide, by decide⟩ ?_
  refine ga_istore (lv2 := [_, _, _, _, _, _, _, _]) dX3_netBetween_4 (by decide) rfl rfl ?_
  refine (ga_loop 2 (fun i => ∀ y z, ga_W 1 0 0 0 0 mX3_netBetween (gis (some (Vi (betF (σ.1 20) (σ.1 3) (σ.1 8) a b 2))) σ) ga_nox 6 [some (Vr 19), some (Vr 2), some (Vi a), some (Vi b), some (Vi (betF (σ.1 20) (σ.1 3) (σ.1 8) a b i)), some (Vi (i : Int)), y, z] [] (HP σ)) ?_ ?_ 0 (Nat.zero_le _) _ _ : _)
  · intro y z
    refine ga_iload dX3_netBetween_6 rfl ?_
    refine ga_iconst dX3_netBetween_8 ⟨by decide, by decide⟩ ?_
    refine ga_icmp_ge (tgt := 112) dX3_netBetween_9 rfl (fun c_9 => ?_) (fun c_9 => ?_)
    · refine ga_iload dX3_netBetween_112 rfl ?_
      refine ga_ret (v := some _) ?_ rfl (by decide) (by decide) ⟨dX3_netBetween_114, _, rfl, rfl⟩
      exact ⟨rfl, rfl⟩
    · omega
  · intro i hi k y z
    rw [betF_s _ _ _ _ _ i] at k
    have hpi : 0 ≤ σ.1 8 (a * 4 + i) ∧ σ.1 8 (a * 4 + i) < 40 := by
      rcases (show i = 0 ∨ i = 1 by omega) with q | q <;> subst q
      · exact hp0
      · exact hp1
    have NO : ¬ betC (σ.1 20) (σ.1 3) (σ.1 8) a b i → ∀ w, ga_W 1 0 0 0 0 mX3_netBetween (gis (some (Vi (betF (σ.1 20) (σ.1 3) (σ.1 8) a b 2))) σ) ga_nox 81 [some (Vr 19), some (Vr 2), some (Vi a), some (Vi b), some (Vi (betF (σ.1 20) (σ.1 3) (σ.1 8) a b i)), some (Vi (i : Int)), some (Vi (σ.1 8 (a * 4 + i))), w] [] (HP σ) := by
      intro hno w
      rw [if_neg (fun z => hno z.1)] at k
      refine ga_iconst dX3_netBetween_81 ⟨by decide, by decide⟩ ?_
      refine ga_istore (lv2 := [_, _, _, _, _, _, _, _]) dX3_netBetween_82 (by decide) rfl rfl ?_
      refine ga_iload dX3_netBetween_84 rfl ?_
      refine ga_if_eq (tgt := 106) dX3_netBetween_86 rfl (fun c_86 => ?_) (fun c_86 => ?_)
      · refine ga_iinc (z := ((i + 1 : Nat) : Int)) (lv2 := [_, _, _, _, _, _, _, _]) dX3_netBetween_106 (by decide) rfl rfl (by omega) (⟨by omega, by omega⟩) rfl ?_
        refine ga_goto (tgt := 6) dX3_netBetween_109 rfl ?_
        exact k _ _
      · exact absurd rfl c_86
    have YES : betC (σ.1 20) (σ.1 3) (σ.1 8) a b i → ∀ w, ga_W 1 0 0 0 0 mX3_netBetween (gis (some (Vi (betF (σ.1 20) (σ.1 3) (σ.1 8) a b 2))) σ) ga_nox 77 [some (Vr 19), some (Vr 2), some (Vi a), some (Vi b), some (Vi (betF (σ.1 20) (σ.1 3) (σ.1 8) a b i)), some (Vi (i : Int)), some (Vi (σ.1 8 (a * 4 + i))), w] [] (HP σ) := by
      intro hyes w
      refine ga_iconst dX3_netBetween_77 ⟨by decide, by decide⟩ ?_
      refine ga_goto (tgt := 82) dX3_netBetween_78 rfl ?_
      refine ga_istore (lv2 := [_, _, _, _, _, _, _, _]) dX3_netBetween_82 (by decide) rfl rfl ?_
      refine ga_iload dX3_netBetween_84 rfl ?_
      refine ga_if_eq (tgt := 106) dX3_netBetween_86 rfl (fun c_86 => ?_) (fun c_86 => ?_)
      · exact absurd c_86 (by decide)
      · refine ga_iload dX3_netBetween_89 rfl ?_
        refine ga_iconst dX3_netBetween_91 ⟨by decide, by decide⟩ ?_
        refine ga_icmp_eq (tgt := 102) dX3_netBetween_92 rfl (fun c_92 => ?_) (fun c_92 => ?_)
        · rw [if_pos ⟨hyes, Or.inl c_92⟩] at k
          refine ga_iload dX3_netBetween_102 rfl ?_
          refine ga_istore (lv2 := [_, _, _, _, _, _, _, _]) dX3_netBetween_104 (by decide) rfl rfl ?_
          refine ga_iinc (z := ((i + 1 : Nat) : Int)) (lv2 := [_, _, _, _, _, _, _, _]) dX3_netBetween_106 (by decide) rfl rfl (by omega) (⟨by omega, by omega⟩) rfl ?_
          refine ga_goto (tgt := 6) dX3_netBetween_109 rfl ?_
          exact k _ _
        · refine ga_iload dX3_netBetween_95 rfl ?_
          refine ga_iload dX3_netBetween_97 rfl ?_
          refine ga_icmp_ge (tgt := 106) dX3_netBetween_99 rfl (fun c_99 => ?_) (fun c_99 => ?_)
          · rw [if_neg (fun z => z.2.elim c_92 c_99)] at k
            refine ga_iinc (z := ((i + 1 : Nat) : Int)) (lv2 := [_, _, _, _, _, _, _, _]) dX3_netBetween_106 (by decide) rfl rfl (by omega) (⟨by omega, by omega⟩) rfl ?_
            refine ga_goto (tgt := 6) dX3_netBetween_109 rfl ?_
            exact k _ _
          · rw [if_pos ⟨hyes, Or.inr c_99⟩] at k
            refine ga_iload dX3_netBetween_102 rfl ?_
            refine ga_istore (lv2 := [_, _, _, _, _, _, _, _]) dX3_netBetween_104 (by decide) rfl rfl ?_
            refine ga_iinc (z := ((i + 1 : Nat) : Int)) (lv2 := [_, _, _, _, _, _, _, _]) dX3_netBetween_106 (by decide) rfl rfl (by omega) (⟨by omega, by omega⟩) rfl ?_
            refine ga_goto (tgt := 6) dX3_netBetween_109 rfl ?_
            exact k _ _
    refine ga_iload dX3_netBetween_6 rfl ?_
    refine ga_iconst dX3_netBetween_8 ⟨by decide, by decide⟩ ?_
    refine ga_icmp_ge (tgt := 112) dX3_netBetween_9 rfl (fun c_9 => ?_) (fun c_9 => ?_)
    · omega
    · refine ga_aload_n dX3_netBetween_12 rfl ?_
      refine ga_iload_n dX3_netBetween_13 rfl ?_
      refine ga_iload dX3_netBetween_14 rfl ?_
      refine hc_V (T_X9_netOf_2 a i σ h1 h2 (by omega) (by omega)) fX9_netOf rfl kX9_netOf lkX3_47 dX3_netBetween_16 rfl rfl rfl rfl rfl rfl rfl rfl ?_
      refine ga_istore (lv2 := [_, _, _, _, _, _, _, _]) dX3_netBetween_19 (by decide) rfl rfl ?_
      refine ga_aload_n dX3_netBetween_21 rfl ?_
      refine ga_iload dX3_netBetween_22 rfl ?_
      refine hc_V (T_X9_isPort_2 _ σ hpi.1 hpi.2) fX9_isPort rfl kX9_isPort lkX3_89 dX3_netBetween_24 rfl rfl rfl rfl rfl rfl rfl rfl ?_
      refine ga_if_ne (tgt := 81) dX3_netBetween_27 rfl (fun c_27 => ?_) (fun c_27 => ?_)
      · rw [tv_ne0] at c_27
        exact NO (fun z => c_27 z.1) _
      · rw [tv_eq0, Classical.not_not] at c_27
        refine ga_aload_n dX3_netBetween_30 rfl ?_
        refine hg_getR grX3_9 dX3_netBetween_31 rfl rfl ?_
        refine ga_iload dX3_netBetween_34 rfl ?_
        refine hg_iald dX3_netBetween_36 rfl (by omega) (by omega) ?_
        refine ga_iconst dX3_netBetween_37 ⟨by decide, by decide⟩ ?_
        refine ga_icmp_ne (tgt := 81) dX3_netBetween_38 rfl (fun c_38 => ?_) (fun c_38 => ?_)
        · exact NO (fun z => c_38 z.2.1) _
        · refine ga_aload_n dX3_netBetween_41 rfl ?_
          refine ga_iload_n dX3_netBetween_42 rfl ?_
          refine ga_iconst dX3_netBetween_43 ⟨by decide, by decide⟩ ?_
          refine ga_iload dX3_netBetween_44 rfl ?_
          refine ga_isub dX3_netBetween_46 rfl (⟨by omega, by omega⟩) ?_
          refine hc_V (T_X9_netOf_2 a (1 - i) σ h1 h2 (by omega) (by omega)) fX9_netOf rfl kX9_netOf lkX3_47 dX3_netBetween_47 rfl rfl rfl rfl rfl rfl rfl rfl ?_
          refine ga_iload dX3_netBetween_50 rfl ?_
          refine ga_icmp_eq (tgt := 81) dX3_netBetween_52 rfl (fun c_52 => ?_) (fun c_52 => ?_)
          · exact NO (fun z => z.2.2.1 c_52) _
          · refine ga_aload_n dX3_netBetween_55 rfl ?_
            refine ga_iload_n dX3_netBetween_56 rfl ?_
            refine ga_iconst dX3_netBetween_57 ⟨by decide, by decide⟩ ?_
            refine hc_V (T_X9_netOf_2 b 0 σ h3 h4 (by decide) (by decide)) fX9_netOf rfl kX9_netOf lkX3_47 dX3_netBetween_58 rfl rfl rfl rfl rfl rfl rfl rfl ?_
            refine ga_iload dX3_netBetween_61 rfl ?_
            refine ga_icmp_eq (tgt := 77) dX3_netBetween_63 rfl (fun c_63 => ?_) (fun c_63 => ?_)
            · exact YES ⟨c_27, c_38, c_52, Or.inl c_63⟩ _
            · refine ga_aload_n dX3_netBetween_66 rfl ?_
              refine ga_iload_n dX3_netBetween_67 rfl ?_
              refine ga_iconst dX3_netBetween_68 ⟨by decide, by decide⟩ ?_
              refine hc_V (T_X9_netOf_2 b 1 σ h3 h4 (by decide) (by decide)) fX9_netOf rfl kX9_netOf lkX3_47 dX3_netBetween_69 rfl rfl rfl rfl rfl rfl rfl rfl ?_
              refine ga_iload dX3_netBetween_72 rfl ?_
              refine ga_icmp_ne (tgt := 81) dX3_netBetween_74 rfl (fun c_74 => ?_) (fun c_74 => ?_)
              · exact NO (fun z => z.2.2.2.elim c_63 c_74) _
              · exact YES ⟨c_27, c_38, c_52, Or.inr c_74⟩ _
def parS_2 (σ : ga_S) (a b : Int) : ga_S := stI (stD σ 6 (ga_up (σ.2 6) a (FP.dadd (σ.2 6 a) (σ.2 6 b)))) 7 (ga_up (σ.1 7) b 1)
theorem T_X3_joinParallel_2 (a b : Int) (σ : ga_S) (h1 : 0 ≤ a) (h2 : a < 30) (h3 : 0 ≤ b) (h4 : b < 30) (hk : 0 ≤ σ.1 5 a ∧ σ.1 5 a < 8) (hk2 : 0 ≤ σ.1 5 b ∧ σ.1 5 b < 8) (hz : SzG (σ.2 6 a)) (hz2 : SzG (σ.2 6 b)) : ga_Mt 2 0 0 mX3_joinParallel [Vr 2, Vr 16, Vi a, Vi b] (HP σ) (fun v2 h2 => (parP (σ.1 8) (σ.1 17) (σ.1 5) a b ∧ v2 = some (Vi 1) ∧ h2 = HP (parS_2 σ a b)) ∨ (¬ parP (σ.1 8) (σ.1 17) (σ.1 5) a b ∧ v2 = some (Vi 0) ∧ h2 = HP σ)) ga_nox := by
  refine ga_meth [some (Vr 2), some (Vr 16), some (Vi a), some (Vi b), none, none, none] rfl rfl (by decide +kernel) (Nat.le_of_ble_eq_true rfl) rfl ?_
  refine ga_iconst dX3_joinParallel_0 ⟨by decide, by decide⟩ ?_
  refine ga_istore (lv2 := [_, _, _, _, _, _, _]) dX3_joinParallel_1 (by decide) rfl rfl ?_
  refine (ga_loop 4 (fun i => ∀ y z, (∀ k : Nat, k < i → pc4 (σ.1 8) (σ.1 17) (σ.1 5) a (σ.1 17 (σ.1 5 a * 4 + k)) (σ.1 8 (a * 4 + k)) = pc4 (σ.1 8) (σ.1 17) (σ.1 5) b (σ.1 17 (σ.1 5 a * 4 + k)) (σ.1 8 (a * 4 + k))) → ga_W 2 0 0 0 0 mX3_joinParallel (fun v2 h2 => (parP (σ.1 8) (σ.1 17) (σ.1 5) a b ∧ v2 = some (Vi 1) ∧ h2 = HP (parS_2 σ a b)) ∨ (¬ parP (σ.1 8) (σ.1 17) (σ.1 5) a b ∧ v2 = some (Vi 0) ∧ h2 = HP σ)) ga_nox 3 [some (Vr 2), some (Vr 16), some (Vi a), some (Vi b), some (Vi (i : Int)), y, z] [] (HP σ)) ?_ ?_ 0 (Nat.zero_le _) _ _ (fun k hk => absurd hk (Nat.not_lt_zero k)) : _)
  · intro y z hall
    refine ga_iload dX3_joinParallel_3 rfl ?_
    refine ga_iconst dX3_joinParallel_5 ⟨by decide, by decide⟩ ?_
    refine ga_icmp_ge (tgt := 63) dX3_joinParallel_6 rfl (fun c_6 => ?_) (fun c_6 => ?_)
    · refine ga_aload_n dX3_joinParallel_63 rfl ?_
      refine hg_getR grX3_70 dX3_joinParallel_64 rfl rfl ?_
      refine ga_iload_n dX3_joinParallel_67 rfl ?_
      refine ga_aload_n dX3_joinParallel_68 rfl ?_
      refine hg_getR grX3_70 dX3_joinParallel_69 rfl rfl ?_
      refine ga_iload_n dX3_joinParallel_72 rfl ?_
      refine hg_dald dX3_joinParallel_73 rfl (by omega) (by omega) ?_
      refine ga_aload_n dX3_joinParallel_74 rfl ?_
      refine hg_getR grX3_70 dX3_joinParallel_75 rfl rfl ?_
      refine ga_iload_n dX3_joinParallel_78 rfl ?_
      refine hg_dald dX3_joinParallel_79 rfl (by omega) (by omega) ?_
      refine ga_dadd dX3_joinParallel_80 (SzG_n64 (SzG_add hz hz2)) ?_
      refine hg_dast dX3_joinParallel_81 rfl (by omega) (by omega) ?_
      refine ga_aload_n dX3_joinParallel_82 rfl ?_
      refine hg_getR grX3_43 dX3_joinParallel_83 rfl rfl ?_
      refine ga_iload_n dX3_joinParallel_86 rfl ?_
      refine ga_iconst dX3_joinParallel_87 ⟨by decide, by decide⟩ ?_
      refine hg_zast dX3_joinParallel_88 rfl (by omega) (by omega) (by omega) ?_
      refine ga_iconst dX3_joinParallel_89 ⟨by decide, by decide⟩ ?_
      refine ga_ret (v := some _) ?_ rfl (by decide) (by decide) ⟨dX3_joinParallel_90, _, rfl, rfl⟩
      exact Or.inl ⟨hall, rfl, rfl⟩
    · omega
  · intro i hi k y z hall
    refine ga_iload dX3_joinParallel_3 rfl ?_
    refine ga_iconst dX3_joinParallel_5 ⟨by decide, by decide⟩ ?_
    refine ga_icmp_ge (tgt := 63) dX3_joinParallel_6 rfl (fun c_6 => ?_) (fun c_6 => ?_)
    · omega
    · refine ga_aload_n dX3_joinParallel_9 rfl ?_
      refine ga_aload_n dX3_joinParallel_10 rfl ?_
      refine hg_getR grX3_51 dX3_joinParallel_11 rfl rfl ?_
      refine ga_iload_n dX3_joinParallel_14 rfl ?_
      refine hg_iald dX3_joinParallel_15 rfl (by omega) (by omega) ?_
      refine ga_iload dX3_joinParallel_16 rfl ?_
      refine hc_V (T_X4_groupOf (σ.1 5 a) i σ hk.1 hk.2 (by omega) (by omega)) fX4_groupOf rfl kX4_groupOf lkX3_61 dX3_joinParallel_18 rfl rfl rfl rfl rfl rfl rfl rfl ?_
      refine ga_istore (lv2 := [_, _, _, _, _, _, _]) dX3_joinParallel_21 (by decide) rfl rfl ?_
      refine ga_aload_n dX3_joinParallel_23 rfl ?_
      refine ga_iload_n dX3_joinParallel_24 rfl ?_
      refine ga_iload dX3_joinParallel_25 rfl ?_
      refine hc_V (T_X9_netOf_2 a i σ h1 h2 (by omega) (by omega)) fX9_netOf rfl kX9_netOf lkX3_47 dX3_joinParallel_27 rfl rfl rfl rfl rfl rfl rfl rfl ?_
      refine ga_istore (lv2 := [_, _, _, _, _, _, _]) dX3_joinParallel_30 (by decide) rfl rfl ?_
      refine ga_aload_n dX3_joinParallel_32 rfl ?_
      refine ga_aload_n dX3_joinParallel_33 rfl ?_
      refine ga_iload_n dX3_joinParallel_34 rfl ?_
      refine ga_iload dX3_joinParallel_35 rfl ?_
      refine ga_iload dX3_joinParallel_37 rfl ?_
      refine hc_V (T_X4_pinsOn_2 a _ _ σ h1 h2 hk.1 hk.2) fX4_pinsOn rfl kX4_pinsOn lkX3_66 dX3_joinParallel_39 rfl rfl rfl rfl rfl rfl rfl rfl ?_
      refine ga_aload_n dX3_joinParallel_42 rfl ?_
      refine ga_aload_n dX3_joinParallel_43 rfl ?_
      refine ga_iload_n dX3_joinParallel_44 rfl ?_
      refine ga_iload dX3_joinParallel_45 rfl ?_
      refine ga_iload dX3_joinParallel_47 rfl ?_
      refine hc_V (T_X4_pinsOn_2 b _ _ σ h3 h4 hk2.1 hk2.2) fX4_pinsOn rfl kX4_pinsOn lkX3_66 dX3_joinParallel_49 rfl rfl rfl rfl rfl rfl rfl rfl ?_
      refine ga_icmp_eq (tgt := 57) dX3_joinParallel_52 rfl (fun c_52 => ?_) (fun c_52 => ?_)
      · refine ga_iinc (z := ((i + 1 : Nat) : Int)) (lv2 := [_, _, _, _, _, _, _]) dX3_joinParallel_57 (by decide) rfl rfl (by omega) (⟨by omega, by omega⟩) rfl ?_
        refine ga_goto (tgt := 3) dX3_joinParallel_60 rfl ?_
        refine k _ _ (fun j hj => ?_)
        rcases Nat.lt_or_ge j i with q | q
        · exact hall j q
        · rw [show j = i by omega]
          exact c_52
      · refine ga_iconst dX3_joinParallel_55 ⟨by decide, by decide⟩ ?_
        refine ga_ret (v := some _) ?_ rfl (by decide) (by decide) ⟨dX3_joinParallel_56, _, rfl, rfl⟩
        exact Or.inr ⟨fun z => c_52 (z i hi), rfl, rfl⟩
theorem T_X3_countPins_9 (σ : ga_S) (N D : Nat) (hN2 : N ≤ 40) (hD : σ.1 9 3 = D) (hD2 : D ≤ 30) (hpin : ∀ j : Int, 0 ≤ j → j < 4 * D → -1 ≤ σ.1 15 j ∧ σ.1 15 j < N) : ga_Mt 1 0 0 mX3_countPins [Vr 19, Vr 9] (HP σ) (gis none (stI σ 20 (paF (σ.1 14) (σ.1 15) (σ.1 20) (4 * D)))) ga_nox := by
  refine ga_meth [some (Vr 19), some (Vr 9), none, none, none] rfl rfl (by decide +kernel) (Nat.le_of_ble_eq_true rfl) rfl ?_
  refine ga_aload_n dX3_countPins_0 rfl ?_
  refine hg_getR grX3_9 dX3_countPins_1 rfl rfl ?_
  refine ga_iconst dX3_countPins_4 ⟨by decide, by decide⟩ ?_
  refine hc_Sv (T_J7_fill rfl (by decide)) fJ7_fill_53178 rfl kJ7_fill_53178 lkX3_37 dX3_countPins_5 rfl rfl rfl rfl rfl rfl ?_
  have e0 : fillF (σ.1 20) ((40 : Nat) : Int) 0 = paF (σ.1 14) (σ.1 15) (σ.1 20) 0 := by
    funext j; unfold fillF paF; rfl
  rw [e0]
  refine ga_iconst dX3_countPins_8 ⟨by decide, by decide⟩ ?_
  refine ga_istore_n (lv2 := [_, _, _, _, _]) dX3_countPins_9 (by decide) rfl rfl ?_
  refine (ga_loop D (fun i => ∀ y z, ga_W 1 0 0 0 0 mX3_countPins (gis none (stI σ 20 (paF (σ.1 14) (σ.1 15) (σ.1 20) (4 * D)))) ga_nox 10 [some (Vr 19), some (Vr 9), some (Vi (i : Int)), y, z] [] (HP (stI σ 20 (paF (σ.1 14) (σ.1 15) (σ.1 20) (4 * i))))) ?_ ?_ 0 (Nat.zero_le _) _ _ : _)
  · intro y z
    have hD9 : (stI σ 20 (paF (σ.1 14) (σ.1 15) (σ.1 20) (4 * D))).1 9 3 = D := hD
    refine ga_iload_n dX3_countPins_10 rfl ?_
    refine ga_aload_n dX3_countPins_11 rfl ?_
    refine hg_getI 3 grX3_23 dX3_countPins_12 rfl rfl rfl ?_
    refine ga_icmp_ge (tgt := 71) dX3_countPins_15 rfl (fun c_15 => ?_) (fun c_15 => ?_)
    · refine ga_ret (v := none) ?_ rfl (by decide) (by decide) ⟨dX3_countPins_71, rfl⟩
      exact ⟨rfl, rfl⟩
    · omega
  · intro i hi k y z
    have hD9 : (stI σ 20 (paF (σ.1 14) (σ.1 15) (σ.1 20) (4 * i))).1 9 3 = D := hD
    refine ga_iload_n dX3_countPins_10 rfl ?_
    refine ga_aload_n dX3_countPins_11 rfl ?_
    refine hg_getI 3 grX3_23 dX3_countPins_12 rfl rfl rfl ?_
    refine ga_icmp_ge (tgt := 71) dX3_countPins_15 rfl (fun c_15 => ?_) (fun c_15 => ?_)
    · omega
    · refine ga_iconst dX3_countPins_18 ⟨by decide, by decide⟩ ?_
      refine ga_istore_n (lv2 := [_, _, _, _, _]) dX3_countPins_19 (by decide) rfl rfl ?_
      refine (ga_loop 4 (fun q => ∀ z, ga_W 1 0 0 0 0 mX3_countPins (gis none (stI σ 20 (paF (σ.1 14) (σ.1 15) (σ.1 20) (4 * D)))) ga_nox 20 [some (Vr 19), some (Vr 9), some (Vi (i : Int)), some (Vi (q : Int)), z] [] (HP (stI σ 20 (paF (σ.1 14) (σ.1 15) (σ.1 20) (4 * i + q))))) ?_ ?_ 0 (Nat.zero_le _) _ : _)
      · intro z
        rw [show 4 * i + 4 = 4 * (i + 1) by omega]
        refine ga_iload_n dX3_countPins_20 rfl ?_
        refine ga_iconst dX3_countPins_21 ⟨by decide, by decide⟩ ?_
        refine ga_icmp_ge (tgt := 65) dX3_countPins_22 rfl (fun c_22 => ?_) (fun c_22 => ?_)
        · refine ga_iinc (z := ((i + 1 : Nat) : Int)) (lv2 := [_, _, _, _, _]) dX3_countPins_65 (by decide) rfl rfl (by omega) (⟨by omega, by omega⟩) rfl ?_
          refine ga_goto (tgt := 10) dX3_countPins_68 rfl ?_
          exact k _ _
        · omega
      · intro q hq k2 z
        have hpq := hpin ((4 * i + q : Nat) : Int) (by omega) (by omega)
        have hbb := paN_b (σ.1 14) (σ.1 15) (4 * i + q) (σ.1 15 ((4 * i + q : Nat) : Int))
        refine ga_iload_n dX3_countPins_20 rfl ?_
        refine ga_iconst dX3_countPins_21 ⟨by decide, by decide⟩ ?_
        refine ga_icmp_ge (tgt := 65) dX3_countPins_22 rfl (fun c_22 => ?_) (fun c_22 => ?_)
        · omega
        · refine ga_aload_n dX3_countPins_25 rfl ?_
          refine hg_getR grX3_43 dX3_countPins_26 rfl rfl ?_
          refine ga_iload_n dX3_countPins_29 rfl ?_
          refine hg_zald dX3_countPins_30 rfl (by omega) (by omega) ?_
          refine ga_if_ne (tgt := 65) dX3_countPins_31 rfl (fun c_31 => ?_) (fun c_31 => ?_)
          · have c9 : ¬ σ.1 14 (i : Int) = 0 := c_31
            have key : ∀ r : Nat, q + r ≤ 4 → paF (σ.1 14) (σ.1 15) (σ.1 20) (4 * i + q + r) = paF (σ.1 14) (σ.1 15) (σ.1 20) (4 * i + q) := by
              intro r
              induction r with
              | zero => intro _; rfl
              | succ r ih =>
                intro hr
                rw [← ih (by omega), ← Nat.add_assoc]
                exact paF_s_no (Or.inl (by rw [show ((4 * i + q + r : Nat) : Int) / 4 = i by omega]; exact c9))
            have e3 := key (4 - q) (by omega)
            rw [show 4 * i + q + (4 - q) = 4 * (i + 1) by omega] at e3
            refine ga_iinc (z := ((i + 1 : Nat) : Int)) (lv2 := [_, _, _, _, _]) dX3_countPins_65 (by decide) rfl rfl (by omega) (⟨by omega, by omega⟩) rfl ?_
            refine ga_goto (tgt := 10) dX3_countPins_68 rfl ?_
            rw [← e3]
            exact k _ _
          · have c9 : σ.1 14 (i : Int) = 0 := c_31
            refine ga_aload_n dX3_countPins_34 rfl ?_
            refine ga_iload_n dX3_countPins_35 rfl ?_
            refine ga_iload_n dX3_countPins_36 rfl ?_
            refine hc_V (T_X9_netOf_9 i q _ (by omega) (by omega) (by omega) (by omega)) fX9_netOf rfl kX9_netOf lkX3_47 dX3_countPins_37 rfl rfl rfl rfl rfl rfl rfl rfl ?_
            refine ga_istore (lv2 := [_, _, _, _, _]) dX3_countPins_40 (by decide) rfl rfl ?_
            refine ga_iload dX3_countPins_42 rfl ?_
            refine ga_iconst dX3_countPins_44 ⟨by decide, by decide⟩ ?_
            refine ga_icmp_eq (tgt := 59) dX3_countPins_45 rfl (fun c_45 => ?_) (fun c_45 => ?_)
            · have c8 : σ.1 15 ((i : Int) * 4 + q) = -1 := c_45
              rw [show (i : Int) * 4 + q = ((4 * i + q : Nat) : Int) by omega] at c8
              have e3 := paF_s_no (gone := σ.1 14) (old := σ.1 20) (Or.inr c8)
              refine ga_iinc (z := ((q + 1 : Nat) : Int)) (lv2 := [_, _, _, _, _]) dX3_countPins_59 (by decide) rfl rfl (by omega) (⟨by omega, by omega⟩) rfl ?_
              refine ga_goto (tgt := 20) dX3_countPins_62 rfl ?_
              rw [← e3]
              exact k2 _
            · have c8 : ¬ σ.1 15 ((i : Int) * 4 + q) = -1 := c_45
              have e7 : (stI σ 20 (paF (σ.1 14) (σ.1 15) (σ.1 20) (4 * i + q))).1 15 ((i : Int) * 4 + q) = σ.1 15 ((4 * i + q : Nat) : Int) := by rw [show (i : Int) * 4 + q = ((4 * i + q : Nat) : Int) by omega]; rfl
              rw [show (i : Int) * 4 + q = ((4 * i + q : Nat) : Int) by omega] at c8
              have e6 : paF (σ.1 14) (σ.1 15) (σ.1 20) (4 * i + q) (σ.1 15 ((4 * i + q : Nat) : Int)) = paN (σ.1 14) (σ.1 15) (4 * i + q) (σ.1 15 ((4 * i + q : Nat) : Int)) := if_pos (by omega)
              have e3 := paF_s_yes (gone := σ.1 14) (pins := σ.1 15) (old := σ.1 20) (e := 4 * i + q) (by rw [show ((4 * i + q : Nat) : Int) / 4 = i by omega]; exact c9) (by omega)
              rw [e7]
              refine ga_aload_n dX3_countPins_48 rfl ?_
              refine hg_getR grX3_9 dX3_countPins_49 rfl rfl ?_
              refine ga_iload dX3_countPins_52 rfl ?_
              refine ga_dup2 dX3_countPins_54 rfl rfl ?_
              refine hg_iald dX3_countPins_55 rfl (by omega) (by omega) ?_
              refine ga_iconst dX3_countPins_56 ⟨by decide, by decide⟩ ?_
              rw [stI_at]
              refine ga_iadd dX3_countPins_57 rfl (by rw [e6]; exact ⟨by omega, by omega⟩) ?_
              refine hg_iast dX3_countPins_58 rfl (by omega) (by omega) ?_
              refine ga_iinc (z := ((q + 1 : Nat) : Int)) (lv2 := [_, _, _, _, _]) dX3_countPins_59 (by decide) rfl rfl (by omega) (⟨by omega, by omega⟩) rfl ?_
              refine ga_goto (tgt := 20) dX3_countPins_62 rfl ?_
              rw [stI_st, stI_at, e3]
              exact k2 _
theorem T_X3_areOfOneKind_9 (a b : Int) (σ : ga_S) (h1 : 0 ≤ a) (h2 : a < 30) (h3 : 0 ≤ b) (h4 : b < 30) : ga_Mt 0 0 0 mX3_areOfOneKind [Vr 9, Vi a, Vi b] (HP σ) (gis (some (Vi (tv (σ.1 14 a = 0 ∧ σ.1 14 b = 0 ∧ σ.1 12 a = σ.1 12 b)))) σ) ga_nox := by
  refine ga_meth [some (Vr 9), some (Vi a), some (Vi b)] rfl rfl (by decide +kernel) (Nat.le_of_ble_eq_true rfl) rfl ?_
  refine ga_aload_n dX3_areOfOneKind_0 rfl ?_
  refine hg_getR grX3_43 dX3_areOfOneKind_1 rfl rfl ?_
  refine ga_iload_n dX3_areOfOneKind_4 rfl ?_
  refine hg_zald dX3_areOfOneKind_5 rfl (by omega) (by omega) ?_
  refine ga_if_ne (tgt := 37) dX3_areOfOneKind_6 rfl (fun c_6 => ?_) (fun c_6 => ?_)
  · refine ga_iconst dX3_areOfOneKind_37 ⟨by decide, by decide⟩ ?_
    refine ga_ret (v := some _) ?_ rfl (by decide) (by decide) ⟨dX3_areOfOneKind_38, _, rfl, rfl⟩
    exact ⟨tvf (fun z => c_6 z.1), rfl⟩
  · refine ga_aload_n dX3_areOfOneKind_9 rfl ?_
    refine hg_getR grX3_43 dX3_areOfOneKind_10 rfl rfl ?_
    refine ga_iload_n dX3_areOfOneKind_13 rfl ?_
    refine hg_zald dX3_areOfOneKind_14 rfl (by omega) (by omega) ?_
    refine ga_if_ne (tgt := 37) dX3_areOfOneKind_15 rfl (fun c_15 => ?_) (fun c_15 => ?_)
    · refine ga_iconst dX3_areOfOneKind_37 ⟨by decide, by decide⟩ ?_
      refine ga_ret (v := some _) ?_ rfl (by decide) (by decide) ⟨dX3_areOfOneKind_38, _, rfl, rfl⟩
      exact ⟨tvf (fun z => c_15 z.2.1), rfl⟩
    · refine ga_aload_n dX3_areOfOneKind_18 rfl ?_
      refine hg_getR grX3_51 dX3_areOfOneKind_19 rfl rfl ?_
      refine ga_iload_n dX3_areOfOneKind_22 rfl ?_
      refine hg_iald dX3_areOfOneKind_23 rfl (by omega) (by omega) ?_
      refine ga_aload_n dX3_areOfOneKind_24 rfl ?_
      refine hg_getR grX3_51 dX3_areOfOneKind_25 rfl rfl ?_
      refine ga_iload_n dX3_areOfOneKind_28 rfl ?_
      refine hg_iald dX3_areOfOneKind_29 rfl (by omega) (by omega) ?_
      refine ga_icmp_ne (tgt := 37) dX3_areOfOneKind_30 rfl (fun c_30 => ?_) (fun c_30 => ?_)
      · refine ga_iconst dX3_areOfOneKind_37 ⟨by decide, by decide⟩ ?_
        refine ga_ret (v := some _) ?_ rfl (by decide) (by decide) ⟨dX3_areOfOneKind_38, _, rfl, rfl⟩
        exact ⟨tvf (fun z => c_30 z.2.2), rfl⟩
      · refine ga_iconst dX3_areOfOneKind_33 ⟨by decide, by decide⟩ ?_
        refine ga_goto (tgt := 38) dX3_areOfOneKind_34 rfl ?_
        refine ga_ret (v := some _) ?_ rfl (by decide) (by decide) ⟨dX3_areOfOneKind_38, _, rfl, rfl⟩
        exact ⟨tvt ⟨c_6, c_15, c_30⟩, rfl⟩
theorem T_X3_hasTwoEnds_9 (d : Int) (σ : ga_S) (h1 : 0 ≤ d) (h2 : d < 30) (h3 : 0 ≤ σ.1 12 d) (h4 : σ.1 12 d < 8) : ga_Mt 1 0 0 mX3_hasTwoEnds [Vr 9, Vr 16, Vi d] (HP σ) (gis (some (Vi (tv (twoP (σ.1 15) (σ.1 17) (σ.1 12) d)))) σ) ga_nox := by
  refine ga_meth [some (Vr 9), some (Vr 16), some (Vi d), none] rfl rfl (by decide +kernel) (Nat.le_of_ble_eq_true rfl) rfl ?_
  refine ga_aload_n dX3_hasTwoEnds_0 rfl ?_
  refine hg_getR grX3_51 dX3_hasTwoEnds_1 rfl rfl ?_
  refine ga_iload_n dX3_hasTwoEnds_4 rfl ?_
  refine hg_iald dX3_hasTwoEnds_5 rfl (by omega) (by omega) ?_
  refine ga_istore_n (lv2 := [_, _, _, _]) dX3_hasTwoEnds_6 (by decide) rfl rfl ?_
  refine ga_aload_n dX3_hasTwoEnds_7 rfl ?_
  refine ga_iload_n dX3_hasTwoEnds_8 rfl ?_
  refine ga_iconst dX3_hasTwoEnds_9 ⟨by decide, by decide⟩ ?_
  refine hc_V (T_X9_netOf_9 d 0 σ h1 h2 (by decide) (by decide)) fX9_netOf rfl kX9_netOf lkX3_47 dX3_hasTwoEnds_10 rfl rfl rfl rfl rfl rfl rfl rfl ?_
  refine ga_iconst dX3_hasTwoEnds_13 ⟨by decide, by decide⟩ ?_
  refine ga_icmp_eq (tgt := 66) dX3_hasTwoEnds_14 rfl (fun c_14 => ?_) (fun c_14 => ?_)
  · refine ga_iconst dX3_hasTwoEnds_66 ⟨by decide, by decide⟩ ?_
    refine ga_ret (v := some _) ?_ rfl (by decide) (by decide) ⟨dX3_hasTwoEnds_67, _, rfl, rfl⟩
    exact ⟨tvf (fun z => z.1 c_14), rfl⟩
  · refine ga_aload_n dX3_hasTwoEnds_17 rfl ?_
    refine ga_iload_n dX3_hasTwoEnds_18 rfl ?_
    refine ga_iconst dX3_hasTwoEnds_19 ⟨by decide, by decide⟩ ?_
    refine hc_V (T_X9_netOf_9 d 1 σ h1 h2 (by decide) (by decide)) fX9_netOf rfl kX9_netOf lkX3_47 dX3_hasTwoEnds_20 rfl rfl rfl rfl rfl rfl rfl rfl ?_
    refine ga_iconst dX3_hasTwoEnds_23 ⟨by decide, by decide⟩ ?_
    refine ga_icmp_eq (tgt := 66) dX3_hasTwoEnds_24 rfl (fun c_24 => ?_) (fun c_24 => ?_)
    · refine ga_iconst dX3_hasTwoEnds_66 ⟨by decide, by decide⟩ ?_
      refine ga_ret (v := some _) ?_ rfl (by decide) (by decide) ⟨dX3_hasTwoEnds_67, _, rfl, rfl⟩
      exact ⟨tvf (fun z => z.2.1 c_24), rfl⟩
    · refine ga_aload_n dX3_hasTwoEnds_27 rfl ?_
      refine ga_iload_n dX3_hasTwoEnds_28 rfl ?_
      refine ga_iconst dX3_hasTwoEnds_29 ⟨by decide, by decide⟩ ?_
      refine hc_V (T_X9_netOf_9 d 2 σ h1 h2 (by decide) (by decide)) fX9_netOf rfl kX9_netOf lkX3_47 dX3_hasTwoEnds_30 rfl rfl rfl rfl rfl rfl rfl rfl ?_
      refine ga_iconst dX3_hasTwoEnds_33 ⟨by decide, by decide⟩ ?_
      refine ga_icmp_ne (tgt := 66) dX3_hasTwoEnds_34 rfl (fun c_34 => ?_) (fun c_34 => ?_)
      · refine ga_iconst dX3_hasTwoEnds_66 ⟨by decide, by decide⟩ ?_
        refine ga_ret (v := some _) ?_ rfl (by decide) (by decide) ⟨dX3_hasTwoEnds_67, _, rfl, rfl⟩
        exact ⟨tvf (fun z => c_34 z.2.2.1), rfl⟩
      · refine ga_aload_n dX3_hasTwoEnds_37 rfl ?_
        refine ga_iload_n dX3_hasTwoEnds_38 rfl ?_
        refine ga_iconst dX3_hasTwoEnds_39 ⟨by decide, by decide⟩ ?_
        refine hc_V (T_X9_netOf_9 d 3 σ h1 h2 (by decide) (by decide)) fX9_netOf rfl kX9_netOf lkX3_47 dX3_hasTwoEnds_40 rfl rfl rfl rfl rfl rfl rfl rfl ?_
        refine ga_iconst dX3_hasTwoEnds_43 ⟨by decide, by decide⟩ ?_
        refine ga_icmp_ne (tgt := 66) dX3_hasTwoEnds_44 rfl (fun c_44 => ?_) (fun c_44 => ?_)
        · refine ga_iconst dX3_hasTwoEnds_66 ⟨by decide, by decide⟩ ?_
          refine ga_ret (v := some _) ?_ rfl (by decide) (by decide) ⟨dX3_hasTwoEnds_67, _, rfl, rfl⟩
          exact ⟨tvf (fun z => c_44 z.2.2.2.1), rfl⟩
        · refine ga_aload_n dX3_hasTwoEnds_47 rfl ?_
          refine ga_iload_n dX3_hasTwoEnds_48 rfl ?_
          refine ga_iconst dX3_hasTwoEnds_49 ⟨by decide, by decide⟩ ?_
          refine hc_V (T_X4_groupOf (σ.1 12 d) 0 σ h3 h4 (by decide) (by decide)) fX4_groupOf rfl kX4_groupOf lkX3_61 dX3_hasTwoEnds_50 rfl rfl rfl rfl rfl rfl rfl rfl ?_
          refine ga_aload_n dX3_hasTwoEnds_53 rfl ?_
          refine ga_iload_n dX3_hasTwoEnds_54 rfl ?_
          refine ga_iconst dX3_hasTwoEnds_55 ⟨by decide, by decide⟩ ?_
          refine hc_V (T_X4_groupOf (σ.1 12 d) 1 σ h3 h4 (by decide) (by decide)) fX4_groupOf rfl kX4_groupOf lkX3_61 dX3_hasTwoEnds_56 rfl rfl rfl rfl rfl rfl rfl rfl ?_
          refine ga_icmp_ne (tgt := 66) dX3_hasTwoEnds_59 rfl (fun c_59 => ?_) (fun c_59 => ?_)
          · refine ga_iconst dX3_hasTwoEnds_66 ⟨by decide, by decide⟩ ?_
            refine ga_ret (v := some _) ?_ rfl (by decide) (by decide) ⟨dX3_hasTwoEnds_67, _, rfl, rfl⟩
            exact ⟨tvf (fun z => c_59 z.2.2.2.2), rfl⟩
          · refine ga_iconst dX3_hasTwoEnds_62 ⟨by decide, by decide⟩ ?_
            refine ga_goto (tgt := 67) dX3_hasTwoEnds_63 rfl ?_
            refine ga_ret (v := some _) ?_ rfl (by decide) (by decide) ⟨dX3_hasTwoEnds_67, _, rfl, rfl⟩
            exact ⟨tvt ⟨c_14, c_24, c_34, c_44, c_59⟩, rfl⟩
theorem T_X3_netBetween_9 (a b : Int) (σ : ga_S) (h1 : 0 ≤ a) (h2 : a < 30) (h3 : 0 ≤ b) (h4 : b < 30) (hp0 : 0 ≤ σ.1 15 (a * 4 + 0) ∧ σ.1 15 (a * 4 + 0) < 40) (hp1 : 0 ≤ σ.1 15 (a * 4 + 1) ∧ σ.1 15 (a * 4 + 1) < 40) : ga_Mt 1 0 0 mX3_netBetween [Vr 19, Vr 9, Vi a, Vi b] (HP σ) (gis (some (Vi (betF (σ.1 20) (σ.1 10) (σ.1 15) a b 2))) σ) ga_nox := by
  refine ga_meth [some (Vr 19), some (Vr 9), some (Vi a), some (Vi b), none, none, none, none] rfl rfl (by decide +kernel) (Nat.le_of_ble_eq_true rfl) rfl ?_
  refine ga_iconst dX3_netBetween_0 ⟨by decide, by decide⟩ ?_
  refine ga_istore (lv2 := [_, _, _, _, _, _, _, _]) dX3_netBetween_1 (by decide) rfl rfl ?_
  refine ga_iconst dX3_netBetween_3 ⟨by decide, by decide⟩ ?_
  refine ga_istore (lv2 := [_, _, _, _, _, _, _, _]) dX3_netBetween_4 (by decide) rfl rfl ?_
  refine (ga_loop 2 (fun i => ∀ y z, ga_W 1 0 0 0 0 mX3_netBetween (gis (some (Vi (betF (σ.1 20) (σ.1 10) (σ.1 15) a b 2))) σ) ga_nox 6 [some (Vr 19), some (Vr 9), some (Vi a), some (Vi b), some (Vi (betF (σ.1 20) (σ.1 10) (σ.1 15) a b i)), some (Vi (i : Int)), y, z] [] (HP σ)) ?_ ?_ 0 (Nat.zero_le _) _ _ : _)
  · intro y z
    refine ga_iload dX3_netBetween_6 rfl ?_
    refine ga_iconst dX3_netBetween_8 ⟨by decide, by decide⟩ ?_
    refine ga_icmp_ge (tgt := 112) dX3_netBetween_9 rfl (fun c_9 => ?_) (fun c_9 => ?_)
    · refine ga_iload dX3_netBetween_112 rfl ?_
      refine ga_ret (v := some _) ?_ rfl (by decide) (by decide) ⟨dX3_netBetween_114, _, rfl, rfl⟩
      exact ⟨rfl, rfl⟩
    · omega
  · intro i hi k y z
    rw [betF_s _ _ _ _ _ i] at k
    have hpi : 0 ≤ σ.1 15 (a * 4 + i) ∧ σ.1 15 (a * 4 + i) < 40 := by
      rcases (show i = 0 ∨ i = 1 by omega) with q | q <;> subst q
      · exact hp0
      · exact hp1
    have NO : ¬ betC (σ.1 20) (σ.1 10) (σ.1 15) a b i → ∀ w, ga_W 1 0 0 0 0 mX3_netBetween (gis (some (Vi (betF (σ.1 20) (σ.1 10) (σ.1 15) a b 2))) σ) ga_nox 81 [some (Vr 19), some (Vr 9), some (Vi a), some (Vi b), some (Vi (betF (σ.1 20) (σ.1 10) (σ.1 15) a b i)), some (Vi (i : Int)), some (Vi (σ.1 15 (a * 4 + i))), w] [] (HP σ) := by
      intro hno w
      rw [if_neg (fun z => hno z.1)] at k
      refine ga_iconst dX3_netBetween_81 ⟨by decide, by decide⟩ ?_
      refine ga_istore (lv2 := [_, _, _, _, _, _, _, _]) dX3_netBetween_82 (by decide) rfl rfl ?_
      refine ga_iload dX3_netBetween_84 rfl ?_
      refine ga_if_eq (tgt := 106) dX3_netBetween_86 rfl (fun c_86 => ?_) (fun c_86 => ?_)
      · refine ga_iinc (z := ((i + 1 : Nat) : Int)) (lv2 := [_, _, _, _, _, _, _, _]) dX3_netBetween_106 (by decide) rfl rfl (by omega) (⟨by omega, by omega⟩) rfl ?_
        refine ga_goto (tgt := 6) dX3_netBetween_109 rfl ?_
        exact k _ _
      · exact absurd rfl c_86
    have YES : betC (σ.1 20) (σ.1 10) (σ.1 15) a b i → ∀ w, ga_W 1 0 0 0 0 mX3_netBetween (gis (some (Vi (betF (σ.1 20) (σ.1 10) (σ.1 15) a b 2))) σ) ga_nox 77 [some (Vr 19), some (Vr 9), some (Vi a), some (Vi b), some (Vi (betF (σ.1 20) (σ.1 10) (σ.1 15) a b i)), some (Vi (i : Int)), some (Vi (σ.1 15 (a * 4 + i))), w] [] (HP σ) := by
      intro hyes w
      refine ga_iconst dX3_netBetween_77 ⟨by decide, by decide⟩ ?_
      refine ga_goto (tgt := 82) dX3_netBetween_78 rfl ?_
      refine ga_istore (lv2 := [_, _, _, _, _, _, _, _]) dX3_netBetween_82 (by decide) rfl rfl ?_
      refine ga_iload dX3_netBetween_84 rfl ?_
      refine ga_if_eq (tgt := 106) dX3_netBetween_86 rfl (fun c_86 => ?_) (fun c_86 => ?_)
      · exact absurd c_86 (by decide)
      · refine ga_iload dX3_netBetween_89 rfl ?_
        refine ga_iconst dX3_netBetween_91 ⟨by decide, by decide⟩ ?_
        refine ga_icmp_eq (tgt := 102) dX3_netBetween_92 rfl (fun c_92 => ?_) (fun c_92 => ?_)
        · rw [if_pos ⟨hyes, Or.inl c_92⟩] at k
          refine ga_iload dX3_netBetween_102 rfl ?_
          refine ga_istore (lv2 := [_, _, _, _, _, _, _, _]) dX3_netBetween_104 (by decide) rfl rfl ?_
          refine ga_iinc (z := ((i + 1 : Nat) : Int)) (lv2 := [_, _, _, _, _, _, _, _]) dX3_netBetween_106 (by decide) rfl rfl (by omega) (⟨by omega, by omega⟩) rfl ?_
          refine ga_goto (tgt := 6) dX3_netBetween_109 rfl ?_
          exact k _ _
        · refine ga_iload dX3_netBetween_95 rfl ?_
          refine ga_iload dX3_netBetween_97 rfl ?_
          refine ga_icmp_ge (tgt := 106) dX3_netBetween_99 rfl (fun c_99 => ?_) (fun c_99 => ?_)
          · rw [if_neg (fun z => z.2.elim c_92 c_99)] at k
            refine ga_iinc (z := ((i + 1 : Nat) : Int)) (lv2 := [_, _, _, _, _, _, _, _]) dX3_netBetween_106 (by decide) rfl rfl (by omega) (⟨by omega, by omega⟩) rfl ?_
            refine ga_goto (tgt := 6) dX3_netBetween_109 rfl ?_
            exact k _ _
          · rw [if_pos ⟨hyes, Or.inr c_99⟩] at k
            refine ga_iload dX3_netBetween_102 rfl ?_
            refine ga_istore (lv2 := [_, _, _, _, _, _, _, _]) dX3_netBetween_104 (by decide) rfl rfl ?_
            refine ga_iinc (z := ((i + 1 : Nat) : Int)) (lv2 := [_, _, _, _, _, _, _, _]) dX3_netBetween_106 (by decide) rfl rfl (by omega) (⟨by omega, by omega⟩) rfl ?_
            refine ga_goto (tgt := 6) dX3_netBetween_109 rfl ?_
            exact k _ _
    refine ga_iload dX3_netBetween_6 rfl ?_
    refine ga_iconst dX3_netBetween_8 ⟨by decide, by decide⟩ ?_
    refine ga_icmp_ge (tgt := 112) dX3_netBetween_9 rfl (fun c_9 => ?_) (fun c_9 => ?_)
    · omega
    · refine ga_aload_n dX3_netBetween_12 rfl ?_
      refine ga_iload_n dX3_netBetween_13 rfl ?_
      refine ga_iload dX3_netBetween_14 rfl ?_
      refine hc_V (T_X9_netOf_9 a i σ h1 h2 (by omega) (by omega)) fX9_netOf rfl kX9_netOf lkX3_47 dX3_netBetween_16 rfl rfl rfl rfl rfl rfl rfl rfl ?_
      refine ga_istore (lv2 := [_, _, _, _, _, _, _, _]) dX3_netBetween_19 (by decide) rfl rfl ?_
      refine ga_aload_n dX3_netBetween_21 rfl ?_
      refine ga_iload dX3_netBetween_22 rfl ?_
      refine hc_V (T_X9_isPort_9 _ σ hpi.1 hpi.2) fX9_isPort rfl kX9_isPort lkX3_89 dX3_netBetween_24 rfl rfl rfl rfl rfl rfl rfl rfl ?_
      refine ga_if_ne (tgt := 81) dX3_netBetween_27 rfl (fun c_27 => ?_) (fun c_27 => ?_)
      · rw [tv_ne0] at c_27
        exact NO (fun z => c_27 z.1) _
      · rw [tv_eq0, Classical.not_not] at c_27
        refine ga_aload_n dX3_netBetween_30 rfl ?_
        refine hg_getR grX3_9 dX3_netBetween_31 rfl rfl ?_
        refine ga_iload dX3_netBetween_34 rfl ?_
        refine hg_iald dX3_netBetween_36 rfl (by omega) (by omega) ?_
        refine ga_iconst dX3_netBetween_37 ⟨by decide, by decide⟩ ?_
        refine ga_icmp_ne (tgt := 81) dX3_netBetween_38 rfl (fun c_38 => ?_) (fun c_38 => ?_)
        · exact NO (fun z => c_38 z.2.1) _
        · refine ga_aload_n dX3_netBetween_41 rfl ?_
          refine ga_iload_n dX3_netBetween_42 rfl ?_
          refine ga_iconst dX3_netBetween_43 ⟨by decide, by decide⟩ ?_
          refine ga_iload dX3_netBetween_44 rfl ?_
          refine ga_isub dX3_netBetween_46 rfl (⟨by omega, by omega⟩) ?_
          refine hc_V (T_X9_netOf_9 a (1 - i) σ h1 h2 (by omega) (by omega)) fX9_netOf rfl kX9_netOf lkX3_47 dX3_netBetween_47 rfl rfl rfl rfl rfl rfl rfl rfl ?_
          refine ga_iload dX3_netBetween_50 rfl ?_
          refine ga_icmp_eq (tgt := 81) dX3_netBetween_52 rfl (fun c_52 => ?_) (fun c_52 => ?_)
          · exact NO (fun z => z.2.2.1 c_52) _
          · refine ga_aload_n dX3_netBetween_55 rfl ?_
            refine ga_iload_n dX3_netBetween_56 rfl ?_
            refine ga_iconst dX3_netBetween_57 ⟨by decide, by decide⟩ ?_
            refine hc_V (T_X9_netOf_9 b 0 σ h3 h4 (by decide) (by decide)) fX9_netOf rfl kX9_netOf lkX3_47 dX3_netBetween_58 rfl rfl rfl rfl rfl rfl rfl rfl ?_
            refine ga_iload dX3_netBetween_61 rfl ?_
            refine ga_icmp_eq (tgt := 77) dX3_netBetween_63 rfl (fun c_63 => ?_) (fun c_63 => ?_)
            · exact YES ⟨c_27, c_38, c_52, Or.inl c_63⟩ _
            · refine ga_aload_n dX3_netBetween_66 rfl ?_
              refine ga_iload_n dX3_netBetween_67 rfl ?_
              refine ga_iconst dX3_netBetween_68 ⟨by decide, by decide⟩ ?_
              refine hc_V (T_X9_netOf_9 b 1 σ h3 h4 (by decide) (by decide)) fX9_netOf rfl kX9_netOf lkX3_47 dX3_netBetween_69 rfl rfl rfl rfl rfl rfl rfl rfl ?_
              refine ga_iload dX3_netBetween_72 rfl ?_
              refine ga_icmp_ne (tgt := 81) dX3_netBetween_74 rfl (fun c_74 => ?_) (fun c_74 => ?_)
              · exact NO (fun z => z.2.2.2.elim c_63 c_74) _
              · exact YES ⟨c_27, c_38, c_52, Or.inr c_74⟩ _
def parS_9 (σ : ga_S) (a b : Int) : ga_S := stI (stD σ 13 (ga_up (σ.2 13) a (FP.dadd (σ.2 13 a) (σ.2 13 b)))) 14 (ga_up (σ.1 14) b 1)
theorem T_X3_joinParallel_9 (a b : Int) (σ : ga_S) (h1 : 0 ≤ a) (h2 : a < 30) (h3 : 0 ≤ b) (h4 : b < 30) (hk : 0 ≤ σ.1 12 a ∧ σ.1 12 a < 8) (hk2 : 0 ≤ σ.1 12 b ∧ σ.1 12 b < 8) (hz : SzG (σ.2 13 a)) (hz2 : SzG (σ.2 13 b)) : ga_Mt 2 0 0 mX3_joinParallel [Vr 9, Vr 16, Vi a, Vi b] (HP σ) (fun v2 h2 => (parP (σ.1 15) (σ.1 17) (σ.1 12) a b ∧ v2 = some (Vi 1) ∧ h2 = HP (parS_9 σ a b)) ∨ (¬ parP (σ.1 15) (σ.1 17) (σ.1 12) a b ∧ v2 = some (Vi 0) ∧ h2 = HP σ)) ga_nox := by
  refine ga_meth [some (Vr 9), some (Vr 16), some (Vi a), some (Vi b), none, none, none] rfl rfl (by decide +kernel) (Nat.le_of_ble_eq_true rfl) rfl ?_
  refine ga_iconst dX3_joinParallel_0 ⟨by decide, by decide⟩ ?_
  refine ga_istore (lv2 := [_, _, _, _, _, _, _]) dX3_joinParallel_1 (by decide) rfl rfl ?_
  refine (ga_loop 4 (fun i => ∀ y z, (∀ k : Nat, k < i → pc4 (σ.1 15) (σ.1 17) (σ.1 12) a (σ.1 17 (σ.1 12 a * 4 + k)) (σ.1 15 (a * 4 + k)) = pc4 (σ.1 15) (σ.1 17) (σ.1 12) b (σ.1 17 (σ.1 12 a * 4 + k)) (σ.1 15 (a * 4 + k))) → ga_W 2 0 0 0 0 mX3_joinParallel (fun v2 h2 => (parP (σ.1 15) (σ.1 17) (σ.1 12) a b ∧ v2 = some (Vi 1) ∧ h2 = HP (parS_9 σ a b)) ∨ (¬ parP (σ.1 15) (σ.1 17) (σ.1 12) a b ∧ v2 = some (Vi 0) ∧ h2 = HP σ)) ga_nox 3 [some (Vr 9), some (Vr 16), some (Vi a), some (Vi b), some (Vi (i : Int)), y, z] [] (HP σ)) ?_ ?_ 0 (Nat.zero_le _) _ _ (fun k hk => absurd hk (Nat.not_lt_zero k)) : _)
  · intro y z hall
    refine ga_iload dX3_joinParallel_3 rfl ?_
    refine ga_iconst dX3_joinParallel_5 ⟨by decide, by decide⟩ ?_
    refine ga_icmp_ge (tgt := 63) dX3_joinParallel_6 rfl (fun c_6 => ?_) (fun c_6 => ?_)
    · refine ga_aload_n dX3_joinParallel_63 rfl ?_
      refine hg_getR grX3_70 dX3_joinParallel_64 rfl rfl ?_
      refine ga_iload_n dX3_joinParallel_67 rfl ?_
      refine ga_aload_n dX3_joinParallel_68 rfl ?_
      refine hg_getR grX3_70 dX3_joinParallel_69 rfl rfl ?_
      refine ga_iload_n dX3_joinParallel_72 rfl ?_
      refine hg_dald dX3_joinParallel_73 rfl (by omega) (by omega) ?_
      refine ga_aload_n dX3_joinParallel_74 rfl ?_
      refine hg_getR grX3_70 dX3_joinParallel_75 rfl rfl ?_
      refine ga_iload_n dX3_joinParallel_78 rfl ?_
      refine hg_dald dX3_joinParallel_79 rfl (by omega) (by omega) ?_
      refine ga_dadd dX3_joinParallel_80 (SzG_n64 (SzG_add hz hz2)) ?_
      refine hg_dast dX3_joinParallel_81 rfl (by omega) (by omega) ?_
      refine ga_aload_n dX3_joinParallel_82 rfl ?_
      refine hg_getR grX3_43 dX3_joinParallel_83 rfl rfl ?_
      refine ga_iload_n dX3_joinParallel_86 rfl ?_
      refine ga_iconst dX3_joinParallel_87 ⟨by decide, by decide⟩ ?_
      refine hg_zast dX3_joinParallel_88 rfl (by omega) (by omega) (by omega) ?_
      refine ga_iconst dX3_joinParallel_89 ⟨by decide, by decide⟩ ?_
      refine ga_ret (v := some _) ?_ rfl (by decide) (by decide) ⟨dX3_joinParallel_90, _, rfl, rfl⟩
      exact Or.inl ⟨hall, rfl, rfl⟩
    · omega
  · intro i hi k y z hall
    refine ga_iload dX3_joinParallel_3 rfl ?_
    refine ga_iconst dX3_joinParallel_5 ⟨by decide, by decide⟩ ?_
    refine ga_icmp_ge (tgt := 63) dX3_joinParallel_6 rfl (fun c_6 => ?_) (fun c_6 => ?_)
    · omega
    · refine ga_aload_n dX3_joinParallel_9 rfl ?_
      refine ga_aload_n dX3_joinParallel_10 rfl ?_
      refine hg_getR grX3_51 dX3_joinParallel_11 rfl rfl ?_
      refine ga_iload_n dX3_joinParallel_14 rfl ?_
      refine hg_iald dX3_joinParallel_15 rfl (by omega) (by omega) ?_
      refine ga_iload dX3_joinParallel_16 rfl ?_
      refine hc_V (T_X4_groupOf (σ.1 12 a) i σ hk.1 hk.2 (by omega) (by omega)) fX4_groupOf rfl kX4_groupOf lkX3_61 dX3_joinParallel_18 rfl rfl rfl rfl rfl rfl rfl rfl ?_
      refine ga_istore (lv2 := [_, _, _, _, _, _, _]) dX3_joinParallel_21 (by decide) rfl rfl ?_
      refine ga_aload_n dX3_joinParallel_23 rfl ?_
      refine ga_iload_n dX3_joinParallel_24 rfl ?_
      refine ga_iload dX3_joinParallel_25 rfl ?_
      refine hc_V (T_X9_netOf_9 a i σ h1 h2 (by omega) (by omega)) fX9_netOf rfl kX9_netOf lkX3_47 dX3_joinParallel_27 rfl rfl rfl rfl rfl rfl rfl rfl ?_
      refine ga_istore (lv2 := [_, _, _, _, _, _, _]) dX3_joinParallel_30 (by decide) rfl rfl ?_
      refine ga_aload_n dX3_joinParallel_32 rfl ?_
      refine ga_aload_n dX3_joinParallel_33 rfl ?_
      refine ga_iload_n dX3_joinParallel_34 rfl ?_
      refine ga_iload dX3_joinParallel_35 rfl ?_
      refine ga_iload dX3_joinParallel_37 rfl ?_
      refine hc_V (T_X4_pinsOn_9 a _ _ σ h1 h2 hk.1 hk.2) fX4_pinsOn rfl kX4_pinsOn lkX3_66 dX3_joinParallel_39 rfl rfl rfl rfl rfl rfl rfl rfl ?_
      refine ga_aload_n dX3_joinParallel_42 rfl ?_
      refine ga_aload_n dX3_joinParallel_43 rfl ?_
      refine ga_iload_n dX3_joinParallel_44 rfl ?_
      refine ga_iload dX3_joinParallel_45 rfl ?_
      refine ga_iload dX3_joinParallel_47 rfl ?_
      refine hc_V (T_X4_pinsOn_9 b _ _ σ h3 h4 hk2.1 hk2.2) fX4_pinsOn rfl kX4_pinsOn lkX3_66 dX3_joinParallel_49 rfl rfl rfl rfl rfl rfl rfl rfl ?_
      refine ga_icmp_eq (tgt := 57) dX3_joinParallel_52 rfl (fun c_52 => ?_) (fun c_52 => ?_)
      · refine ga_iinc (z := ((i + 1 : Nat) : Int)) (lv2 := [_, _, _, _, _, _, _]) dX3_joinParallel_57 (by decide) rfl rfl (by omega) (⟨by omega, by omega⟩) rfl ?_
        refine ga_goto (tgt := 3) dX3_joinParallel_60 rfl ?_
        refine k _ _ (fun j hj => ?_)
        rcases Nat.lt_or_ge j i with q | q
        · exact hall j q
        · rw [show j = i by omega]
          exact c_52
      · refine ga_iconst dX3_joinParallel_55 ⟨by decide, by decide⟩ ?_
        refine ga_ret (v := some _) ?_ rfl (by decide) (by decide) ⟨dX3_joinParallel_56, _, rfl, rfl⟩
        exact Or.inr ⟨fun z => c_52 (z i hi), rfl, rfl⟩
