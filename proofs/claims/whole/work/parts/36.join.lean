-- Joining, on
noncomputable def tif {α : Type} (P : Prop) (x y : α) : α := @ite α P (Classical.propDecidable P) x y
theorem tif1 {α : Type} {P : Prop} {x y : α} (h : P) : tif P x y = x := if_pos h
theorem tif0 {α : Type} {P : Prop} {x y : α} (h : ¬ P) : tif P x y = y := if_neg h
def serP (pa port pins grp kind : Int → Int) (a b : Int) : Prop := twoP pins grp kind a ∧ twoP pins grp kind b ∧ betF pa port pins a b 2 ≠ -1
def FstP (C : Nat → Nat → Prop) (D a b : Nat) : Prop := a < b ∧ b < D ∧ C a b ∧ ∀ a' b' : Nat, a' < b' → b' < D → (a' < a ∨ a' = a ∧ b' < b) → ¬ C a' b'
def jP (r : Int) (pa port pins grp kind : Int → Int) (a b : Int) : Prop := (r = 0 → parP pins grp kind a b) ∧ (r ≠ 0 → serP pa port pins grp kind a b)
theorem ga_up_in {α : Type} {f : Int → α} {i j : Int} {v : α} {P : α → Prop} (hv : P v) (hf : P (f j)) : P (ga_up f i v j) := by
  unfold ga_up
  split
  · exact hv
  · exact hf
theorem FstP_one {C : Nat → Nat → Prop} {D a b a2 b2 : Nat} (h : FstP C D a b) (g : FstP C D a2 b2) : a = a2 ∧ b = b2 := by
  obtain ⟨h1, h2, h3, h4⟩ := h
  obtain ⟨g1, g2, g3, g4⟩ := g
  by_cases q : a < a2 ∨ a = a2 ∧ b < b2
  · exact absurd h3 (g4 a b h1 h2 q)
  · by_cases q2 : a2 < a ∨ a2 = a ∧ b2 < b
    · exact absurd g3 (h4 a2 b2 g1 g2 q2)
    · omega
theorem SzG_serC {a b : UInt64} (ha : SzG a) (hb : SzG b) : SzG (serC a b) := by
  unfold serC
  split
  · exact SzG_0
  · exact SzG_ser ha hb
theorem jP0 {r : Int} {pa port pins grp kind : Int → Int} {a b : Int} (h : r = 0) : jP r pa port pins grp kind a b = parP pins grp kind a b := propext ⟨fun z => z.1 h, fun z => ⟨fun _ => z, fun q => absurd h q⟩⟩
theorem jP1 {r : Int} {pa port pins grp kind : Int → Int} {a b : Int} (h : ¬ r = 0) : jP r pa port pins grp kind a b = serP pa port pins grp kind a b := propext ⟨fun z => z.2 h, fun z => ⟨fun q => absurd q h, fun _ => z⟩⟩
/-- what a side's cells keep to -/
def sok (cnt kind pins : Int → Int) (sizes : Int → UInt64) (N D : Nat) : Prop := cnt 0 = N ∧ N ≤ 40 ∧ cnt 3 = D ∧ D ≤ 30 ∧ (∀ d : Int, 0 ≤ d → d < D → 0 ≤ kind d ∧ kind d < 8) ∧ (∀ d : Int, 0 ≤ d → d < D → SzG (sizes d)) ∧ (∀ j : Int, 0 ≤ j → j < 4 * D → -1 ≤ pins j ∧ pins j < N)
noncomputable def serS_2 (σ : ga_S) (a b : Int) : ga_S := stI (stD (stI σ 8 (ga_up (σ.1 8) (a * 4 + (if σ.1 8 (a * 4 + 0) = betF (σ.1 20) (σ.1 3) (σ.1 8) a b 2 then 0 else 1)) (σ.1 8 (b * 4 + (if σ.1 8 (b * 4 + 0) = betF (σ.1 20) (σ.1 3) (σ.1 8) a b 2 then 1 else 0))))) 6 (ga_up (σ.2 6) a (serC (σ.2 6 a) (σ.2 6 b)))) 7 (ga_up (σ.1 7) b 1)
noncomputable def jS_2 (r : Int) (σ : ga_S) (a b : Int) : ga_S := if r = 0 then parS_2 σ a b else serS_2 σ a b
abbrev sP_2 (σ : ga_S) (a b : Int) : Prop := serP (σ.1 20) (σ.1 3) (σ.1 8) (σ.1 17) (σ.1 5) a b
theorem T_X3_joinSeries_2 (a b : Int) (σ : ga_S) (h1 : 0 ≤ a) (h2 : a < 30) (h3 : 0 ≤ b) (h4 : b < 30) (hk : 0 ≤ σ.1 5 a ∧ σ.1 5 a < 8) (hk2 : 0 ≤ σ.1 5 b ∧ σ.1 5 b < 8) (hz : SzG (σ.2 6 a)) (hz2 : SzG (σ.2 6 b)) (hp0 : -1 ≤ σ.1 8 (a * 4 + 0) ∧ σ.1 8 (a * 4 + 0) < 40) (hp1 : -1 ≤ σ.1 8 (a * 4 + 1) ∧ σ.1 8 (a * 4 + 1) < 40) : ga_Mt 2 0 0 mX3_joinSeries [Vr 19, Vr 2, Vr 16, Vi a, Vi b] (HP σ) (gis (some (Vi (tv (sP_2 σ a b)))) (tif (sP_2 σ a b) (serS_2 σ a b) σ)) ga_nox := by
  refine ga_meth [some (Vr 19), some (Vr 2), some (Vr 16), some (Vi a), some (Vi b), none, none, none] rfl rfl (by decide +kernel) (Nat.le_of_ble_eq_true rfl) rfl ?_
  refine ga_aload_n dX3_joinSeries_0 rfl ?_
  refine ga_aload_n dX3_joinSeries_1 rfl ?_
  refine ga_iload_n dX3_joinSeries_2 rfl ?_
  refine hc_S (T_X3_hasTwoEnds_2 a σ h1 h2 hk.1 hk.2) fX3_hasTwoEnds rfl kX3_hasTwoEnds lkX3_74 dX3_joinSeries_3 rfl rfl rfl rfl rfl rfl ?_
  refine ga_if_eq (tgt := 19) dX3_joinSeries_6 rfl (fun c_6 => ?_) (fun c_6 => ?_)
  · rw [tv_eq0] at c_6
    refine ga_iconst dX3_joinSeries_19 ⟨by decide, by decide⟩ ?_
    refine ga_ret (v := some _) ?_ rfl (by decide) (by decide) ⟨dX3_joinSeries_20, _, rfl, rfl⟩
    exact ⟨tvf (fun z => c_6 z.1), by rw [tif0 (fun z => c_6 z.1)]⟩
  · rw [tv_ne0] at c_6
    refine ga_aload_n dX3_joinSeries_9 rfl ?_
    refine ga_aload_n dX3_joinSeries_10 rfl ?_
    refine ga_iload dX3_joinSeries_11 rfl ?_
    refine hc_S (T_X3_hasTwoEnds_2 b σ h3 h4 hk2.1 hk2.2) fX3_hasTwoEnds rfl kX3_hasTwoEnds lkX3_74 dX3_joinSeries_13 rfl rfl rfl rfl rfl rfl ?_
    refine ga_if_ne (tgt := 21) dX3_joinSeries_16 rfl (fun c_16 => ?_) (fun c_16 => ?_)
    rotate_left
    · rw [tv_eq0] at c_16
      refine ga_iconst dX3_joinSeries_19 ⟨by decide, by decide⟩ ?_
      refine ga_ret (v := some _) ?_ rfl (by decide) (by decide) ⟨dX3_joinSeries_20, _, rfl, rfl⟩
      exact ⟨tvf (fun z => c_16 z.2.1), by rw [tif0 (fun z => c_16 z.2.1)]⟩
    · rw [tv_ne0] at c_16
      have q0 : 0 ≤ σ.1 8 (a * 4 + 0) ∧ σ.1 8 (a * 4 + 0) < 40 := ⟨by have := c_6.1; omega, hp0.2⟩
      have q1 : 0 ≤ σ.1 8 (a * 4 + 1) ∧ σ.1 8 (a * 4 + 1) < 40 := ⟨by have := c_6.2.1; omega, hp1.2⟩
      refine ga_aload_n dX3_joinSeries_21 rfl ?_
      refine ga_aload_n dX3_joinSeries_22 rfl ?_
      refine ga_iload_n dX3_joinSeries_23 rfl ?_
      refine ga_iload dX3_joinSeries_24 rfl ?_
      refine hc_V (T_X3_netBetween_2 a b σ h1 h2 h3 h4 q0 q1) fX3_netBetween rfl kX3_netBetween lkX3_77 dX3_joinSeries_26 rfl rfl rfl rfl rfl rfl rfl rfl ?_
      refine ga_istore (lv2 := [_, _, _, _, _, _, _, _]) dX3_joinSeries_29 (by decide) rfl rfl ?_
      refine ga_iload dX3_joinSeries_31 rfl ?_
      refine ga_iconst dX3_joinSeries_33 ⟨by decide, by decide⟩ ?_
      refine ga_icmp_ne (tgt := 39) dX3_joinSeries_34 rfl (fun c_34 => ?_) (fun c_34 => ?_)
      rotate_left
      · refine ga_iconst dX3_joinSeries_37 ⟨by decide, by decide⟩ ?_
        refine ga_ret (v := some _) ?_ rfl (by decide) (by decide) ⟨dX3_joinSeries_38, _, rfl, rfl⟩
        exact ⟨tvf (fun z => z.2.2 c_34), by rw [tif0 (fun z => z.2.2 c_34)]⟩
      · have H : sP_2 σ a b := ⟨c_6, c_16, c_34⟩
        have TAIL : ∀ th ot : Int, 0 ≤ th → th < 4 → 0 ≤ ot → ot < 4 → th = (if σ.1 8 (a * 4 + 0) = betF (σ.1 20) (σ.1 3) (σ.1 8) a b 2 then 0 else 1) → ot = (if σ.1 8 (b * 4 + 0) = betF (σ.1 20) (σ.1 3) (σ.1 8) a b 2 then 1 else 0) → ga_W 2 0 0 0 0 mX3_joinSeries (gis (some (Vi (tv (sP_2 σ a b)))) (tif (sP_2 σ a b) (serS_2 σ a b) σ)) ga_nox 76 [some (Vr 19), some (Vr 2), some (Vr 16), some (Vi a), some (Vi b), some (Vi (betF (σ.1 20) (σ.1 3) (σ.1 8) a b 2)), some (Vi th), some (Vi ot)] [] (HP σ) := by
          intro th ot t1 t2 t3 t4 e1 e2
          refine ga_aload_n dX3_joinSeries_76 rfl ?_
          refine ga_iload_n dX3_joinSeries_77 rfl ?_
          refine ga_iload dX3_joinSeries_78 rfl ?_
          refine ga_aload_n dX3_joinSeries_80 rfl ?_
          refine ga_iload dX3_joinSeries_81 rfl ?_
          refine ga_iload dX3_joinSeries_83 rfl ?_
          refine hc_V (T_X9_netOf_2 b ot σ h3 h4 t3 t4) fX9_netOf rfl kX9_netOf lkX3_47 dX3_joinSeries_85 rfl rfl rfl rfl rfl rfl rfl rfl ?_
          refine hc_V (T_X9_connect_2 a th _ σ h1 h2 t1 t2) fX9_connect rfl kX9_connect lkX3_81 dX3_joinSeries_88 rfl rfl rfl rfl rfl rfl rfl rfl ?_
          refine ga_pop dX3_joinSeries_91 rfl ?_
          refine ga_aload_n dX3_joinSeries_92 rfl ?_
          refine hg_getR grX3_70 dX3_joinSeries_93 rfl rfl ?_
          refine ga_iload_n dX3_joinSeries_96 rfl ?_
          refine ga_aload_n dX3_joinSeries_97 rfl ?_
          refine hg_getR grX3_70 dX3_joinSeries_98 rfl rfl ?_
          refine ga_iload_n dX3_joinSeries_101 rfl ?_
          refine hg_dald dX3_joinSeries_102 rfl (by omega) (by omega) ?_
          refine ga_aload_n dX3_joinSeries_103 rfl ?_
          refine hg_getR grX3_70 dX3_joinSeries_104 rfl rfl ?_
          refine ga_iload dX3_joinSeries_107 rfl ?_
          refine hg_dald dX3_joinSeries_109 rfl (by omega) (by omega) ?_
          refine hc_S (T_X3_sizeInSeries _ _ hz hz2 _) fX3_sizeInSeries rfl kX3_sizeInSeries lkX3_85 dX3_joinSeries_110 rfl rfl rfl rfl rfl rfl ?_
          refine hg_dast dX3_joinSeries_113 rfl (by omega) (by omega) ?_
          refine ga_aload_n dX3_joinSeries_114 rfl ?_
          refine hg_getR grX3_43 dX3_joinSeries_115 rfl rfl ?_
          refine ga_iload dX3_joinSeries_118 rfl ?_
          refine ga_iconst dX3_joinSeries_120 ⟨by decide, by decide⟩ ?_
          refine hg_zast dX3_joinSeries_121 rfl (by omega) (by omega) (by omega) ?_
          refine ga_iconst dX3_joinSeries_122 ⟨by decide, by decide⟩ ?_
          refine ga_ret (v := some _) ?_ rfl (by decide) (by decide) ⟨dX3_joinSeries_123, _, rfl, rfl⟩
          rw [tif1 H]
          unfold serS_2
          rw [← e1, ← e2]
          exact ⟨tvt H, rfl⟩
        refine ga_aload_n dX3_joinSeries_39 rfl ?_
        refine ga_iload_n dX3_joinSeries_40 rfl ?_
        refine ga_iconst dX3_joinSeries_41 ⟨by decide, by decide⟩ ?_
        refine hc_V (T_X9_netOf_2 a 0 σ h1 h2 (by decide) (by decide)) fX9_netOf rfl kX9_netOf lkX3_47 dX3_joinSeries_42 rfl rfl rfl rfl rfl rfl rfl rfl ?_
        refine ga_iload dX3_joinSeries_45 rfl ?_
        refine ga_icmp_ne (tgt := 54) dX3_joinSeries_47 rfl (fun c_47 => ?_) (fun c_47 => ?_)
        · refine ga_iconst dX3_joinSeries_54 ⟨by decide, by decide⟩ ?_
          refine ga_istore (lv2 := [_, _, _, _, _, _, _, _]) dX3_joinSeries_55 (by decide) rfl rfl ?_
          refine ga_aload_n dX3_joinSeries_57 rfl ?_
          refine ga_iload dX3_joinSeries_58 rfl ?_
          refine ga_iconst dX3_joinSeries_60 ⟨by decide, by decide⟩ ?_
          refine hc_V (T_X9_netOf_2 b 0 σ h3 h4 (by decide) (by decide)) fX9_netOf rfl kX9_netOf lkX3_47 dX3_joinSeries_61 rfl rfl rfl rfl rfl rfl rfl rfl ?_
          refine ga_iload dX3_joinSeries_64 rfl ?_
          refine ga_icmp_ne (tgt := 73) dX3_joinSeries_66 rfl (fun c_66 => ?_) (fun c_66 => ?_)
          · refine ga_iconst dX3_joinSeries_73 ⟨by decide, by decide⟩ ?_
            refine ga_istore (lv2 := [_, _, _, _, _, _, _, _]) dX3_joinSeries_74 (by decide) rfl rfl ?_
            exact TAIL _ _ (by decide) (by decide) (by decide) (by decide) (by rw [if_neg c_47]) (by rw [if_neg c_66])
          · refine ga_iconst dX3_joinSeries_69 ⟨by decide, by decide⟩ ?_
            refine ga_goto (tgt := 74) dX3_joinSeries_70 rfl ?_
            refine ga_istore (lv2 := [_, _, _, _, _, _, _, _]) dX3_joinSeries_74 (by decide) rfl rfl ?_
            exact TAIL _ _ (by decide) (by decide) (by decide) (by decide) (by rw [if_neg c_47]) (by rw [if_pos c_66])
        · refine ga_iconst dX3_joinSeries_50 ⟨by decide, by decide⟩ ?_
          refine ga_goto (tgt := 55) dX3_joinSeries_51 rfl ?_
          refine ga_istore (lv2 := [_, _, _, _, _, _, _, _]) dX3_joinSeries_55 (by decide) rfl rfl ?_
          refine ga_aload_n dX3_joinSeries_57 rfl ?_
          refine ga_iload dX3_joinSeries_58 rfl ?_
          refine ga_iconst dX3_joinSeries_60 ⟨by decide, by decide⟩ ?_
          refine hc_V (T_X9_netOf_2 b 0 σ h3 h4 (by decide) (by decide)) fX9_netOf rfl kX9_netOf lkX3_47 dX3_joinSeries_61 rfl rfl rfl rfl rfl rfl rfl rfl ?_
          refine ga_iload dX3_joinSeries_64 rfl ?_
          refine ga_icmp_ne (tgt := 73) dX3_joinSeries_66 rfl (fun c_66 => ?_) (fun c_66 => ?_)
          · refine ga_iconst dX3_joinSeries_73 ⟨by decide, by decide⟩ ?_
            refine ga_istore (lv2 := [_, _, _, _, _, _, _, _]) dX3_joinSeries_74 (by decide) rfl rfl ?_
            exact TAIL _ _ (by decide) (by decide) (by decide) (by decide) (by rw [if_pos c_47]) (by rw [if_neg c_66])
          · refine ga_iconst dX3_joinSeries_69 ⟨by decide, by decide⟩ ?_
            refine ga_goto (tgt := 74) dX3_joinSeries_70 rfl ?_
            refine ga_istore (lv2 := [_, _, _, _, _, _, _, _]) dX3_joinSeries_74 (by decide) rfl rfl ?_
            exact TAIL _ _ (by decide) (by decide) (by decide) (by decide) (by rw [if_pos c_47]) (by rw [if_pos c_66])
abbrev jC_2 (r : Int) (σ : ga_S) (a b : Int) : Prop := jP r (σ.1 20) (σ.1 3) (σ.1 8) (σ.1 17) (σ.1 5) a b
theorem T_X3_joinPair_2 (r a b : Int) (σ : ga_S) (h1 : 0 ≤ a) (h2 : a < 30) (h3 : 0 ≤ b) (h4 : b < 30) (hk : 0 ≤ σ.1 5 a ∧ σ.1 5 a < 8) (hk2 : 0 ≤ σ.1 5 b ∧ σ.1 5 b < 8) (hz : SzG (σ.2 6 a)) (hz2 : SzG (σ.2 6 b)) (hp0 : -1 ≤ σ.1 8 (a * 4 + 0) ∧ σ.1 8 (a * 4 + 0) < 40) (hp1 : -1 ≤ σ.1 8 (a * 4 + 1) ∧ σ.1 8 (a * 4 + 1) < 40) : ga_Mt 3 0 0 mX3_joinPair [Vr 19, Vr 2, Vr 16, Vi r, Vi a, Vi b] (HP σ) (gis (some (Vi (tv (jC_2 r σ a b)))) (tif (jC_2 r σ a b) (jS_2 r σ a b) σ)) ga_nox := by
  refine ga_meth [some (Vr 19), some (Vr 2), some (Vr 16), some (Vi r), some (Vi a), some (Vi b)] rfl rfl (by decide +kernel) (Nat.le_of_ble_eq_true rfl) rfl ?_
  refine ga_iload_n dX3_joinPair_0 rfl ?_
  refine ga_if_ne (tgt := 16) dX3_joinPair_1 rfl (fun c_1 => ?_) (fun c_1 => ?_)
  · have e : jC_2 r σ a b = sP_2 σ a b := jP1 c_1
    have e2 : jS_2 r σ a b = serS_2 σ a b := if_neg c_1
    rw [e, e2]
    refine ga_aload_n dX3_joinPair_16 rfl ?_
    refine ga_aload_n dX3_joinPair_17 rfl ?_
    refine ga_aload_n dX3_joinPair_18 rfl ?_
    refine ga_iload dX3_joinPair_19 rfl ?_
    refine ga_iload dX3_joinPair_21 rfl ?_
    refine hc_V (T_X3_joinSeries_2 a b σ h1 h2 h3 h4 hk hk2 hz hz2 hp0 hp1) fX3_joinSeries rfl kX3_joinSeries lkX3_58 dX3_joinPair_23 rfl rfl rfl rfl rfl rfl rfl rfl ?_
    refine ga_ret (v := some _) ?_ rfl (by decide) (by decide) ⟨dX3_joinPair_26, _, rfl, tv_nb⟩
    exact ⟨rfl, rfl⟩
  · have e : jC_2 r σ a b = parP (σ.1 8) (σ.1 17) (σ.1 5) a b := jP0 c_1
    have e2 : jS_2 r σ a b = parS_2 σ a b := if_pos c_1
    rw [e, e2]
    have T : ga_Mt 2 0 0 mX3_joinParallel [Vr 2, Vr 16, Vi a, Vi b] (HP σ) (gis (some (Vi (tv (parP (σ.1 8) (σ.1 17) (σ.1 5) a b)))) (tif (parP (σ.1 8) (σ.1 17) (σ.1 5) a b) (parS_2 σ a b) σ)) ga_nox := by
      refine (T_X3_joinParallel_2 a b σ h1 h2 h3 h4 hk hk2 hz hz2).mono ?_ (fun _ _ z => z)
      rintro v h2 (⟨q1, q2, q3⟩ | ⟨q1, q2, q3⟩)
      · exact ⟨by rw [q2, tv1 q1], by rw [q3, tif1 q1]⟩
      · exact ⟨by rw [q2, tvz q1], by rw [q3, tif0 q1]⟩
    refine ga_aload_n dX3_joinPair_4 rfl ?_
    refine ga_aload_n dX3_joinPair_5 rfl ?_
    refine ga_iload dX3_joinPair_6 rfl ?_
    refine ga_iload dX3_joinPair_8 rfl ?_
    refine hc_S (T) fX3_joinParallel rfl kX3_joinParallel lkX3_54 dX3_joinPair_10 rfl rfl rfl rfl rfl rfl ?_
    refine ga_goto (tgt := 26) dX3_joinPair_13 rfl ?_
    refine ga_ret (v := some _) ?_ rfl (by decide) (by decide) ⟨dX3_joinPair_26, _, rfl, tv_nb⟩
    exact ⟨rfl, rfl⟩
abbrev sok_2 (σ : ga_S) (N D : Nat) : Prop := sok (σ.1 2) (σ.1 5) (σ.1 8) (σ.2 6) N D
def CJ_2 (r : Int) (σ : ga_S) (a b : Nat) : Prop := (σ.1 7 a = 0 ∧ σ.1 7 b = 0 ∧ σ.1 5 a = σ.1 5 b) ∧ jC_2 r σ a b
def FPost_2 (r : Int) (D : Nat) (τ : ga_S) : ga_Po := fun v h => (∃ a b : Nat, FstP (CJ_2 r τ) D a b ∧ v = some (Vi 1) ∧ h = HP (jS_2 r τ a b)) ∨ ((∀ a b : Nat, a < b → b < D → ¬ CJ_2 r τ a b) ∧ v = some (Vi 0) ∧ h = HP τ)
theorem W_joinFirstPair_2 (r : Int) (τ : ga_S) (N D : Nat) (hs : sok_2 τ N D) (y z : Option ga_V) : ga_W 4 0 0 0 0 mX3_joinFirstPair (FPost_2 r D τ) ga_nox 5 [some (Vr 19), some (Vr 2), some (Vr 16), some (Vi r), y, z] [] (HP τ) := by
  obtain ⟨hN, hN2, hD, hD2, hkd, hsz, hpin⟩ := hs
  refine ga_iconst dX3_joinFirstPair_5 ⟨by decide, by decide⟩ ?_
  refine ga_istore (lv2 := [_, _, _, _, _, _]) dX3_joinFirstPair_6 (by decide) rfl rfl ?_
  refine (ga_loop D (fun i => ∀ z, (∀ a b : Nat, a < b → b < D → a < i → ¬ CJ_2 r τ a b) → ga_W 4 0 0 0 0 mX3_joinFirstPair (FPost_2 r D τ) ga_nox 8 [some (Vr 19), some (Vr 2), some (Vr 16), some (Vi r), some (Vi (i : Int)), z] [] (HP τ)) ?_ ?_ 0 (Nat.zero_le _) _ (fun _ _ _ _ q => absurd q (Nat.not_lt_zero _)) : _)
  · intro z hno
    refine ga_iload dX3_joinFirstPair_8 rfl ?_
    refine ga_aload_n dX3_joinFirstPair_10 rfl ?_
    refine hg_getI 3 grX3_23 dX3_joinFirstPair_11 rfl rfl rfl ?_
    refine ga_icmp_ge (tgt := 71) dX3_joinFirstPair_14 rfl (fun c_14 => ?_) (fun c_14 => ?_)
    · refine ga_iconst dX3_joinFirstPair_71 ⟨by decide, by decide⟩ ?_
      refine ga_ret (v := some _) ?_ rfl (by decide) (by decide) ⟨dX3_joinFirstPair_72, _, rfl, rfl⟩
      exact Or.inr ⟨fun a b h1 h2 => hno a b h1 h2 (by omega), rfl, rfl⟩
    · omega
  · intro i hi k z hno
    refine ga_iload dX3_joinFirstPair_8 rfl ?_
    refine ga_aload_n dX3_joinFirstPair_10 rfl ?_
    refine hg_getI 3 grX3_23 dX3_joinFirstPair_11 rfl rfl rfl ?_
    refine ga_icmp_ge (tgt := 71) dX3_joinFirstPair_14 rfl (fun c_14 => ?_) (fun c_14 => ?_)
    · omega
    · refine ga_iload dX3_joinFirstPair_17 rfl ?_
      refine ga_iconst dX3_joinFirstPair_19 ⟨by decide, by decide⟩ ?_
      refine ga_iadd (z := ((i + 1 : Nat) : Int)) dX3_joinFirstPair_20 (by omega) (⟨by omega, by omega⟩) ?_
      refine ga_istore (lv2 := [_, _, _, _, _, _]) dX3_joinFirstPair_21 (by decide) rfl rfl ?_
      refine (ga_loop D (fun j => i < j → (∀ b : Nat, i < b → b < j → ¬ CJ_2 r τ i b) → ga_W 4 0 0 0 0 mX3_joinFirstPair (FPost_2 r D τ) ga_nox 23 [some (Vr 19), some (Vr 2), some (Vr 16), some (Vi r), some (Vi (i : Int)), some (Vi (j : Int))] [] (HP τ)) ?_ ?_ (i + 1) (by omega) (by omega) (fun b h1 h2 => absurd h2 (by omega)) : _)
      · intro _ hno2
        refine ga_iload dX3_joinFirstPair_23 rfl ?_
        refine ga_aload_n dX3_joinFirstPair_25 rfl ?_
        refine hg_getI 3 grX3_23 dX3_joinFirstPair_26 rfl rfl rfl ?_
        refine ga_icmp_ge (tgt := 65) dX3_joinFirstPair_29 rfl (fun c_29 => ?_) (fun c_29 => ?_)
        · refine ga_iinc (z := ((i + 1 : Nat) : Int)) (lv2 := [_, _, _, _, _, _]) dX3_joinFirstPair_65 (by decide) rfl rfl (by omega) (⟨by omega, by omega⟩) rfl ?_
          refine ga_goto (tgt := 8) dX3_joinFirstPair_68 rfl ?_
          refine k _ (fun a b h1 h2 h3 => ?_)
          rcases Nat.lt_or_ge a i with q | q
          · exact hno a b h1 h2 q
          · have : a = i := by omega
            subst this
            exact hno2 b h1 h2
        · omega
      · intro j hj k2 hij hno2
        have ki := hkd i (by omega) (by omega)
        have kj := hkd j (by omega) (by omega)
        have GO : ¬ CJ_2 r τ i j → ga_W 4 0 0 0 0 mX3_joinFirstPair (FPost_2 r D τ) ga_nox 59 [some (Vr 19), some (Vr 2), some (Vr 16), some (Vi r), some (Vi (i : Int)), some (Vi (j : Int))] [] (HP τ) := by
          intro hno3
          refine ga_iinc (z := ((j + 1 : Nat) : Int)) (lv2 := [_, _, _, _, _, _]) dX3_joinFirstPair_59 (by decide) rfl rfl (by omega) (⟨by omega, by omega⟩) rfl ?_
          refine ga_goto (tgt := 23) dX3_joinFirstPair_62 rfl ?_
          refine k2 (by omega) (fun b h1 h2 => ?_)
          rcases Nat.lt_or_ge b j with q | q
          · exact hno2 b h1 q
          · have : b = j := by omega
            subst this
            exact hno3
        refine ga_iload dX3_joinFirstPair_23 rfl ?_
        refine ga_aload_n dX3_joinFirstPair_25 rfl ?_
        refine hg_getI 3 grX3_23 dX3_joinFirstPair_26 rfl rfl rfl ?_
        refine ga_icmp_ge (tgt := 65) dX3_joinFirstPair_29 rfl (fun c_29 => ?_) (fun c_29 => ?_)
        · omega
        · refine ga_aload_n dX3_joinFirstPair_32 rfl ?_
          refine ga_iload dX3_joinFirstPair_33 rfl ?_
          refine ga_iload dX3_joinFirstPair_35 rfl ?_
          refine hc_S (T_X3_areOfOneKind_2 i j τ (by omega) (by omega) (by omega) (by omega)) fX3_areOfOneKind rfl kX3_areOfOneKind lkX3_29 dX3_joinFirstPair_37 rfl rfl rfl rfl rfl rfl ?_
          refine ga_if_eq (tgt := 59) dX3_joinFirstPair_40 rfl (fun c_40 => ?_) (fun c_40 => ?_)
          · rw [tv_eq0] at c_40
            exact GO (fun q => c_40 q.1)
          · rw [tv_ne0] at c_40
            have p0 := hpin ((i : Int) * 4 + 0) (by omega) (by omega)
            have p1 := hpin ((i : Int) * 4 + 1) (by omega) (by omega)
            refine ga_aload_n dX3_joinFirstPair_43 rfl ?_
            refine ga_aload_n dX3_joinFirstPair_44 rfl ?_
            refine ga_aload_n dX3_joinFirstPair_45 rfl ?_
            refine ga_iload_n dX3_joinFirstPair_46 rfl ?_
            refine ga_iload dX3_joinFirstPair_47 rfl ?_
            refine ga_iload dX3_joinFirstPair_49 rfl ?_
            refine hc_V (T_X3_joinPair_2 r i j τ (by omega) (by omega) (by omega) (by omega) ki kj (hsz i (by omega) (by omega)) (hsz j (by omega) (by omega)) ⟨p0.1, by omega⟩ ⟨p1.1, by omega⟩) fX3_joinPair rfl kX3_joinPair lkX3_33 dX3_joinFirstPair_51 rfl rfl rfl rfl rfl rfl rfl rfl ?_
            refine ga_if_eq (tgt := 59) dX3_joinFirstPair_54 rfl (fun c_54 => ?_) (fun c_54 => ?_)
            · rw [tv_eq0] at c_54
              rw [tif0 c_54]
              exact GO (fun q => c_54 q.2)
            · rw [tv_ne0] at c_54
              rw [tif1 c_54]
              refine ga_iconst dX3_joinFirstPair_57 ⟨by decide, by decide⟩ ?_
              refine ga_ret (v := some _) ?_ rfl (by decide) (by decide) ⟨dX3_joinFirstPair_58, _, rfl, rfl⟩
              refine Or.inl ⟨i, j, ⟨hij, hj, ⟨c_40, c_54⟩, fun a b h1 h2 h3 => ?_⟩, rfl, rfl⟩
              rcases h3 with q | ⟨q, q2⟩
              · exact hno a b h1 h2 q
              · subst q
                exact hno2 b h1 q2
noncomputable def cntS_2 (σ : ga_S) (D : Nat) : ga_S := stI σ 20 (paF (σ.1 7) (σ.1 8) (σ.1 20) (4 * D))
theorem T_X3_joinFirstPair_2 (r : Int) (σ : ga_S) (N D : Nat) (hs : sok_2 σ N D) : ga_Mt 4 0 0 mX3_joinFirstPair [Vr 19, Vr 2, Vr 16, Vi r] (HP σ) (FPost_2 r D (cntS_2 σ D)) ga_nox := by
  refine ga_meth [some (Vr 19), some (Vr 2), some (Vr 16), some (Vi r), none, none] rfl rfl (by decide +kernel) (Nat.le_of_ble_eq_true rfl) rfl ?_
  have hs2 := hs
  obtain ⟨hN, hN2, hD, hD2, hkd, hsz, hpin⟩ := hs2
  refine ga_aload_n dX3_joinFirstPair_0 rfl ?_
  refine ga_aload_n dX3_joinFirstPair_1 rfl ?_
  refine hc_Vv (T_X3_countPins_2 σ N D hN2 hD hD2 hpin) fX3_countPins rfl kX3_countPins lkX3_19 dX3_joinFirstPair_2 rfl rfl rfl rfl rfl rfl rfl rfl ?_
  exact W_joinFirstPair_2 r (cntS_2 σ D) N D (show sok_2 (cntS_2 σ D) N D from hs) none none
theorem sok_jS_2 {r : Int} {τ : ga_S} {N D a b : Nat} (hs : sok_2 τ N D) (h : FstP (CJ_2 r τ) D a b) : sok_2 (jS_2 r τ a b) N D := by
  obtain ⟨hN, hN2, hD, hD2, hkd, hsz, hpin⟩ := hs
  obtain ⟨h1, h2, hc, _⟩ := h
  unfold jS_2
  split
  · refine ⟨hN, hN2, hD, hD2, hkd, fun d h3 h4 => ?_, hpin⟩
    show SzG (ga_up (τ.2 6) (a : Int) _ d)
    unfold ga_up
    split
    · exact SzG_add (hsz a (by omega) (by omega)) (hsz b (by omega) (by omega))
    · exact hsz d h3 h4
  · refine ⟨hN, hN2, hD, hD2, hkd, fun d h3 h4 => ?_, fun j h3 h4 => ?_⟩
    · show SzG (ga_up (τ.2 6) (a : Int) _ d)
      unfold ga_up
      split
      · exact SzG_serC (hsz a (by omega) (by omega)) (hsz b (by omega) (by omega))
      · exact hsz d h3 h4
    · refine ga_up_in (P := fun x : Int => -1 ≤ x ∧ x < N) ?_ (hpin j h3 h4)
      split
      · exact hpin _ (by omega) (by omega)
      · exact hpin _ (by omega) (by omega)
/-- n joinings from one state to another -/
def Jn_2 (r : Int) (D : Nat) : Nat → ga_S → ga_S → Prop
  | 0, σ, σ2 => (∀ a b : Nat, a < b → b < D → ¬ CJ_2 r (cntS_2 σ D) a b) ∧ σ2 = cntS_2 σ D
  | n + 1, σ, σ2 => ∃ a b : Nat, FstP (CJ_2 r (cntS_2 σ D)) D a b ∧ Jn_2 r D n (jS_2 r (cntS_2 σ D) a b) σ2
theorem T_X3_joinAll_2 (r : Int) (σ σ2 : ga_S) (N D n : Nat) (hs : sok_2 σ N D) (hn : n < 30) (hj : Jn_2 r D n σ σ2) : ga_Mt 5 0 0 mX3_joinAll [Vr 19, Vr 2, Vr 16, Vi r] (HP σ) (gis none σ2) ga_nox := by
  refine ga_meth [some (Vr 19), some (Vr 2), some (Vr 16), some (Vi r), none] rfl rfl (by decide +kernel) (Nat.le_of_ble_eq_true rfl) rfl ?_
  refine ga_iconst dX3_joinAll_0 ⟨by decide, by decide⟩ ?_
  refine ga_istore (lv2 := [_, _, _, _, _]) dX3_joinAll_1 (by decide) rfl rfl ?_
  have key : ∀ n i : Nat, i + n < 30 → ∀ σ : ga_S, sok_2 σ N D → Jn_2 r D n σ σ2 → ga_W 5 0 0 0 0 mX3_joinAll (gis none σ2) ga_nox 3 [some (Vr 19), some (Vr 2), some (Vr 16), some (Vi r), some (Vi (i : Int))] [] (HP σ) := by
    intro n
    induction n with
    | zero =>
      intro i hi σ hs hj
      refine ga_iload dX3_joinAll_3 rfl ?_
      refine ga_bipush dX3_joinAll_5 ⟨by decide, by decide⟩ (by decide) ?_
      refine ga_icmp_ge (tgt := 27) dX3_joinAll_7 rfl (fun c_7 => ?_) (fun c_7 => ?_)
      · omega
      · refine ga_aload_n dX3_joinAll_10 rfl ?_
        refine ga_aload_n dX3_joinAll_11 rfl ?_
        refine ga_aload_n dX3_joinAll_12 rfl ?_
        refine ga_iload_n dX3_joinAll_13 rfl ?_
        refine hc_VP (T_X3_joinFirstPair_2 r σ N D hs) fX3_joinFirstPair rfl kX3_joinFirstPair lkX3_15 dX3_joinAll_14 rfl rfl rfl rfl rfl rfl rfl rfl ?_
        rintro v h2 (⟨a, b, q1, q2, q3⟩ | ⟨q1, q2, q3⟩)
        · exact absurd q1.2.2.1 (hj.1 a b q1.1 q1.2.1)
        · rw [q2, q3, hj.2]
          refine ga_if_ne (tgt := 21) dX3_joinAll_17 rfl (fun c_17 => ?_) (fun c_17 => ?_)
          · exact absurd rfl c_17
          · refine ga_ret (v := none) ?_ rfl (by decide) (by decide) ⟨dX3_joinAll_20, rfl⟩
            exact ⟨rfl, rfl⟩
    | succ n ih =>
      intro i hi σ hs hj
      refine ga_iload dX3_joinAll_3 rfl ?_
      refine ga_bipush dX3_joinAll_5 ⟨by decide, by decide⟩ (by decide) ?_
      refine ga_icmp_ge (tgt := 27) dX3_joinAll_7 rfl (fun c_7 => ?_) (fun c_7 => ?_)
      · omega
      · refine ga_aload_n dX3_joinAll_10 rfl ?_
        refine ga_aload_n dX3_joinAll_11 rfl ?_
        refine ga_aload_n dX3_joinAll_12 rfl ?_
        refine ga_iload_n dX3_joinAll_13 rfl ?_
        refine hc_VP (T_X3_joinFirstPair_2 r σ N D hs) fX3_joinFirstPair rfl kX3_joinFirstPair lkX3_15 dX3_joinAll_14 rfl rfl rfl rfl rfl rfl rfl rfl ?_
        rintro v h2 (⟨a, b, q1, q2, q3⟩ | ⟨q1, q2, q3⟩)
        · obtain ⟨a2, b2, f1, f2⟩ := hj
          obtain ⟨e1, e2⟩ := FstP_one q1 f1
          subst e1; subst e2
          rw [q2, q3]
          refine ga_if_ne (tgt := 21) dX3_joinAll_17 rfl (fun c_17 => ?_) (fun c_17 => ?_)
          · refine ga_iinc (z := ((i + 1 : Nat) : Int)) (lv2 := [_, _, _, _, _]) dX3_joinAll_21 (by decide) rfl rfl (by omega) (⟨by omega, by omega⟩) rfl ?_
            refine ga_goto (tgt := 3) dX3_joinAll_24 rfl ?_
            exact ih (i + 1) (by omega) (jS_2 r (cntS_2 σ D) a b) (sok_jS_2 hs q1) f2
          · exact absurd c_17 (by decide)
        · obtain ⟨a2, b2, f1, f2⟩ := hj
          exact absurd f1.2.2.1 (q1 a2 b2 f1.1 f1.2.1)
  exact key n 0 (by omega) σ hs hj
noncomputable def serS_9 (σ : ga_S) (a b : Int) : ga_S := stI (stD (stI σ 15 (ga_up (σ.1 15) (a * 4 + (if σ.1 15 (a * 4 + 0) = betF (σ.1 20) (σ.1 10) (σ.1 15) a b 2 then 0 else 1)) (σ.1 15 (b * 4 + (if σ.1 15 (b * 4 + 0) = betF (σ.1 20) (σ.1 10) (σ.1 15) a b 2 then 1 else 0))))) 13 (ga_up (σ.2 13) a (serC (σ.2 13 a) (σ.2 13 b)))) 14 (ga_up (σ.1 14) b 1)
noncomputable def jS_9 (r : Int) (σ : ga_S) (a b : Int) : ga_S := if r = 0 then parS_9 σ a b else serS_9 σ a b
abbrev sP_9 (σ : ga_S) (a b : Int) : Prop := serP (σ.1 20) (σ.1 10) (σ.1 15) (σ.1 17) (σ.1 12) a b
theorem T_X3_joinSeries_9 (a b : Int) (σ : ga_S) (h1 : 0 ≤ a) (h2 : a < 30) (h3 : 0 ≤ b) (h4 : b < 30) (hk : 0 ≤ σ.1 12 a ∧ σ.1 12 a < 8) (hk2 : 0 ≤ σ.1 12 b ∧ σ.1 12 b < 8) (hz : SzG (σ.2 13 a)) (hz2 : SzG (σ.2 13 b)) (hp0 : -1 ≤ σ.1 15 (a * 4 + 0) ∧ σ.1 15 (a * 4 + 0) < 40) (hp1 : -1 ≤ σ.1 15 (a * 4 + 1) ∧ σ.1 15 (a * 4 + 1) < 40) : ga_Mt 2 0 0 mX3_joinSeries [Vr 19, Vr 9, Vr 16, Vi a, Vi b] (HP σ) (gis (some (Vi (tv (sP_9 σ a b)))) (tif (sP_9 σ a b) (serS_9 σ a b) σ)) ga_nox := by
  refine ga_meth [some (Vr 19), some (Vr 9), some (Vr 16), some (Vi a), some (Vi b), none, none, none] rfl rfl (by decide +kernel) (Nat.le_of_ble_eq_true rfl) rfl ?_
  refine ga_aload_n dX3_joinSeries_0 rfl ?_
  refine ga_aload_n dX3_joinSeries_1 rfl ?_
  refine ga_iload_n dX3_joinSeries_2 rfl ?_
  refine hc_S (T_X3_hasTwoEnds_9 a σ h1 h2 hk.1 hk.2) fX3_hasTwoEnds rfl kX3_hasTwoEnds lkX3_74 dX3_joinSeries_3 rfl rfl rfl rfl rfl rfl ?_
  refine ga_if_eq (tgt := 19) dX3_joinSeries_6 rfl (fun c_6 => ?_) (fun c_6 => ?_)
  · rw [tv_eq0] at c_6
    refine ga_iconst dX3_joinSeries_19 ⟨by decide, by decide⟩ ?_
    refine ga_ret (v := some _) ?_ rfl (by decide) (by decide) ⟨dX3_joinSeries_20, _, rfl, rfl⟩
    exact ⟨tvf (fun z => c_6 z.1), by rw [tif0 (fun z => c_6 z.1)]⟩
  · rw [tv_ne0] at c_6
    refine ga_aload_n dX3_joinSeries_9 rfl ?_
    refine ga_aload_n dX3_joinSeries_10 rfl ?_
    refine ga_iload dX3_joinSeries_11 rfl ?_
    refine hc_S (T_X3_hasTwoEnds_9 b σ h3 h4 hk2.1 hk2.2) fX3_hasTwoEnds rfl kX3_hasTwoEnds lkX3_74 dX3_joinSeries_13 rfl rfl rfl rfl rfl rfl ?_
    refine ga_if_ne (tgt := 21) dX3_joinSeries_16 rfl (fun c_16 => ?_) (fun c_16 => ?_)
    rotate_left
    · rw [tv_eq0] at c_16
      refine ga_iconst dX3_joinSeries_19 ⟨by decide, by decide⟩ ?_
      refine ga_ret (v := some _) ?_ rfl (by decide) (by decide) ⟨dX3_joinSeries_20, _, rfl, rfl⟩
      exact ⟨tvf (fun z => c_16 z.2.1), by rw [tif0 (fun z => c_16 z.2.1)]⟩
    · rw [tv_ne0] at c_16
      have q0 : 0 ≤ σ.1 15 (a * 4 + 0) ∧ σ.1 15 (a * 4 + 0) < 40 := ⟨by have := c_6.1; omega, hp0.2⟩
      have q1 : 0 ≤ σ.1 15 (a * 4 + 1) ∧ σ.1 15 (a * 4 + 1) < 40 := ⟨by have := c_6.2.1; omega, hp1.2⟩
      refine ga_aload_n dX3_joinSeries_21 rfl ?_
      refine ga_aload_n dX3_joinSeries_22 rfl ?_
      refine ga_iload_n dX3_joinSeries_23 rfl ?_
      refine ga_iload dX3_joinSeries_24 rfl ?_
      refine hc_V (T_X3_netBetween_9 a b σ h1 h2 h3 h4 q0 q1) fX3_netBetween rfl kX3_netBetween lkX3_77 dX3_joinSeries_26 rfl rfl rfl rfl rfl rfl rfl rfl ?_
      refine ga_istore (lv2 := [_, _, _, _, _, _, _, _]) dX3_joinSeries_29 (by decide) rfl rfl ?_
      refine ga_iload dX3_joinSeries_31 rfl ?_
      refine ga_iconst dX3_joinSeries_33 ⟨by decide, by decide⟩ ?_
      refine ga_icmp_ne (tgt := 39) dX3_joinSeries_34 rfl (fun c_34 => ?_) (fun c_34 => ?_)
      rotate_left
      · refine ga_iconst dX3_joinSeries_37 ⟨by decide, by decide⟩ ?_
        refine ga_ret (v := some _) ?_ rfl (by decide) (by decide) ⟨dX3_joinSeries_38, _, rfl, rfl⟩
        exact ⟨tvf (fun z => z.2.2 c_34), by rw [tif0 (fun z => z.2.2 c_34)]⟩
      · have H : sP_9 σ a b := ⟨c_6, c_16, c_34⟩
        have TAIL : ∀ th ot : Int, 0 ≤ th → th < 4 → 0 ≤ ot → ot < 4 → th = (if σ.1 15 (a * 4 + 0) = betF (σ.1 20) (σ.1 10) (σ.1 15) a b 2 then 0 else 1) → ot = (if σ.1 15 (b * 4 + 0) = betF (σ.1 20) (σ.1 10) (σ.1 15) a b 2 then 1 else 0) → ga_W 2 0 0 0 0 mX3_joinSeries (gis (some (Vi (tv (sP_9 σ a b)))) (tif (sP_9 σ a b) (serS_9 σ a b) σ)) ga_nox 76 [some (Vr 19), some (Vr 9), some (Vr 16), some (Vi a), some (Vi b), some (Vi (betF (σ.1 20) (σ.1 10) (σ.1 15) a b 2)), some (Vi th), some (Vi ot)] [] (HP σ) := by
          intro th ot t1 t2 t3 t4 e1 e2
          refine ga_aload_n dX3_joinSeries_76 rfl ?_
          refine ga_iload_n dX3_joinSeries_77 rfl ?_
          refine ga_iload dX3_joinSeries_78 rfl ?_
          refine ga_aload_n dX3_joinSeries_80 rfl ?_
          refine ga_iload dX3_joinSeries_81 rfl ?_
          refine ga_iload dX3_joinSeries_83 rfl ?_
          refine hc_V (T_X9_netOf_9 b ot σ h3 h4 t3 t4) fX9_netOf rfl kX9_netOf lkX3_47 dX3_joinSeries_85 rfl rfl rfl rfl rfl rfl rfl rfl ?_
          refine hc_V (T_X9_connect_9 a th _ σ h1 h2 t1 t2) fX9_connect rfl kX9_connect lkX3_81 dX3_joinSeries_88 rfl rfl rfl rfl rfl rfl rfl rfl ?_
          refine ga_pop dX3_joinSeries_91 rfl ?_
          refine ga_aload_n dX3_joinSeries_92 rfl ?_
          refine hg_getR grX3_70 dX3_joinSeries_93 rfl rfl ?_
          refine ga_iload_n dX3_joinSeries_96 rfl ?_
          refine ga_aload_n dX3_joinSeries_97 rfl ?_
          refine hg_getR grX3_70 dX3_joinSeries_98 rfl rfl ?_
          refine ga_iload_n dX3_joinSeries_101 rfl ?_
          refine hg_dald dX3_joinSeries_102 rfl (by omega) (by omega) ?_
          refine ga_aload_n dX3_joinSeries_103 rfl ?_
          refine hg_getR grX3_70 dX3_joinSeries_104 rfl rfl ?_
          refine ga_iload dX3_joinSeries_107 rfl ?_
          refine hg_dald dX3_joinSeries_109 rfl (by omega) (by omega) ?_
          refine hc_S (T_X3_sizeInSeries _ _ hz hz2 _) fX3_sizeInSeries rfl kX3_sizeInSeries lkX3_85 dX3_joinSeries_110 rfl rfl rfl rfl rfl rfl ?_
          refine hg_dast dX3_joinSeries_113 rfl (by omega) (by omega) ?_
          refine ga_aload_n dX3_joinSeries_114 rfl ?_
          refine hg_getR grX3_43 dX3_joinSeries_115 rfl rfl ?_
          refine ga_iload dX3_joinSeries_118 rfl ?_
          refine ga_iconst dX3_joinSeries_120 ⟨by decide, by decide⟩ ?_
          refine hg_zast dX3_joinSeries_121 rfl (by omega) (by omega) (by omega) ?_
          refine ga_iconst dX3_joinSeries_122 ⟨by decide, by decide⟩ ?_
          refine ga_ret (v := some _) ?_ rfl (by decide) (by decide) ⟨dX3_joinSeries_123, _, rfl, rfl⟩
          rw [tif1 H]
          unfold serS_9
          rw [← e1, ← e2]
          exact ⟨tvt H, rfl⟩
        refine ga_aload_n dX3_joinSeries_39 rfl ?_
        refine ga_iload_n dX3_joinSeries_40 rfl ?_
        refine ga_iconst dX3_joinSeries_41 ⟨by decide, by decide⟩ ?_
        refine hc_V (T_X9_netOf_9 a 0 σ h1 h2 (by decide) (by decide)) fX9_netOf rfl kX9_netOf lkX3_47 dX3_joinSeries_42 rfl rfl rfl rfl rfl rfl rfl rfl ?_
        refine ga_iload dX3_joinSeries_45 rfl ?_
        refine ga_icmp_ne (tgt := 54) dX3_joinSeries_47 rfl (fun c_47 => ?_) (fun c_47 => ?_)
        · refine ga_iconst dX3_joinSeries_54 ⟨by decide, by decide⟩ ?_
          refine ga_istore (lv2 := [_, _, _, _, _, _, _, _]) dX3_joinSeries_55 (by decide) rfl rfl ?_
          refine ga_aload_n dX3_joinSeries_57 rfl ?_
          refine ga_iload dX3_joinSeries_58 rfl ?_
          refine ga_iconst dX3_joinSeries_60 ⟨by decide, by decide⟩ ?_
          refine hc_V (T_X9_netOf_9 b 0 σ h3 h4 (by decide) (by decide)) fX9_netOf rfl kX9_netOf lkX3_47 dX3_joinSeries_61 rfl rfl rfl rfl rfl rfl rfl rfl ?_
          refine ga_iload dX3_joinSeries_64 rfl ?_
          refine ga_icmp_ne (tgt := 73) dX3_joinSeries_66 rfl (fun c_66 => ?_) (fun c_66 => ?_)
          · refine ga_iconst dX3_joinSeries_73 ⟨by decide, by decide⟩ ?_
            refine ga_istore (lv2 := [_, _, _, _, _, _, _, _]) dX3_joinSeries_74 (by decide) rfl rfl ?_
            exact TAIL _ _ (by decide) (by decide) (by decide) (by decide) (by rw [if_neg c_47]) (by rw [if_neg c_66])
          · refine ga_iconst dX3_joinSeries_69 ⟨by decide, by decide⟩ ?_
            refine ga_goto (tgt := 74) dX3_joinSeries_70 rfl ?_
            refine ga_istore (lv2 := [_, _, _, _, _, _, _, _]) dX3_joinSeries_74 (by decide) rfl rfl ?_
            exact TAIL _ _ (by decide) (by decide) (by decide) (by decide) (by rw [if_neg c_47]) (by rw [if_pos c_66])
        · refine ga_iconst dX3_joinSeries_50 ⟨by decide, by decide⟩ ?_
          refine ga_goto (tgt := 55) dX3_joinSeries_51 rfl ?_
          refine ga_istore (lv2 := [_, _, _, _, _, _, _, _]) dX3_joinSeries_55 (by decide) rfl rfl ?_
          refine ga_aload_n dX3_joinSeries_57 rfl ?_
          refine ga_iload dX3_joinSeries_58 rfl ?_
          refine ga_iconst dX3_joinSeries_60 ⟨by decide, by decide⟩ ?_
          refine hc_V (T_X9_netOf_9 b 0 σ h3 h4 (by decide) (by decide)) fX9_netOf rfl kX9_netOf lkX3_47 dX3_joinSeries_61 rfl rfl rfl rfl rfl rfl rfl rfl ?_
          refine ga_iload dX3_joinSeries_64 rfl ?_
          refine ga_icmp_ne (tgt := 73) dX3_joinSeries_66 rfl (fun c_66 => ?_) (fun c_66 => ?_)
          · refine ga_iconst dX3_joinSeries_73 ⟨by decide, by decide⟩ ?_
            refine ga_istore (lv2 := [_, _, _, _, _, _, _, _]) dX3_joinSeries_74 (by decide) rfl rfl ?_
            exact TAIL _ _ (by decide) (by decide) (by decide) (by decide) (by rw [if_pos c_47]) (by rw [if_neg c_66])
          · refine ga_iconst dX3_joinSeries_69 ⟨by decide, by decide⟩ ?_
            refine ga_goto (tgt := 74) dX3_joinSeries_70 rfl ?_
            refine ga_istore (lv2 := [_, _, _, _, _, _, _, _]) dX3_joinSeries_74 (by decide) rfl rfl ?_
            exact TAIL _ _ (by decide) (by decide) (by decide) (by decide) (by rw [if_pos c_47]) (by rw [if_pos c_66])
abbrev jC_9 (r : Int) (σ : ga_S) (a b : Int) : Prop := jP r (σ.1 20) (σ.1 10) (σ.1 15) (σ.1 17) (σ.1 12) a b
theorem T_X3_joinPair_9 (r a b : Int) (σ : ga_S) (h1 : 0 ≤ a) (h2 : a < 30) (h3 : 0 ≤ b) (h4 : b < 30) (hk : 0 ≤ σ.1 12 a ∧ σ.1 12 a < 8) (hk2 : 0 ≤ σ.1 12 b ∧ σ.1 12 b < 8) (hz : SzG (σ.2 13 a)) (hz2 : SzG (σ.2 13 b)) (hp0 : -1 ≤ σ.1 15 (a * 4 + 0) ∧ σ.1 15 (a * 4 + 0) < 40) (hp1 : -1 ≤ σ.1 15 (a * 4 + 1) ∧ σ.1 15 (a * 4 + 1) < 40) : ga_Mt 3 0 0 mX3_joinPair [Vr 19, Vr 9, Vr 16, Vi r, Vi a, Vi b] (HP σ) (gis (some (Vi (tv (jC_9 r σ a b)))) (tif (jC_9 r σ a b) (jS_9 r σ a b) σ)) ga_nox := by
  refine ga_meth [some (Vr 19), some (Vr 9), some (Vr 16), some (Vi r), some (Vi a), some (Vi b)] rfl rfl (by decide +kernel) (Nat.le_of_ble_eq_true rfl) rfl ?_
  refine ga_iload_n dX3_joinPair_0 rfl ?_
  refine ga_if_ne (tgt := 16) dX3_joinPair_1 rfl (fun c_1 => ?_) (fun c_1 => ?_)
  · have e : jC_9 r σ a b = sP_9 σ a b := jP1 c_1
    have e2 : jS_9 r σ a b = serS_9 σ a b := if_neg c_1
    rw [e, e2]
    refine ga_aload_n dX3_joinPair_16 rfl ?_
    refine ga_aload_n dX3_joinPair_17 rfl ?_
    refine ga_aload_n dX3_joinPair_18 rfl ?_
    refine ga_iload dX3_joinPair_19 rfl ?_
    refine ga_iload dX3_joinPair_21 rfl ?_
    refine hc_V (T_X3_joinSeries_9 a b σ h1 h2 h3 h4 hk hk2 hz hz2 hp0 hp1) fX3_joinSeries rfl kX3_joinSeries lkX3_58 dX3_joinPair_23 rfl rfl rfl rfl rfl rfl rfl rfl ?_
    refine ga_ret (v := some _) ?_ rfl (by decide) (by decide) ⟨dX3_joinPair_26, _, rfl, tv_nb⟩
    exact ⟨rfl, rfl⟩
  · have e : jC_9 r σ a b = parP (σ.1 15) (σ.1 17) (σ.1 12) a b := jP0 c_1
    have e2 : jS_9 r σ a b = parS_9 σ a b := if_pos c_1
    rw [e, e2]
    have T : ga_Mt 2 0 0 mX3_joinParallel [Vr 9, Vr 16, Vi a, Vi b] (HP σ) (gis (some (Vi (tv (parP (σ.1 15) (σ.1 17) (σ.1 12) a b)))) (tif (parP (σ.1 15) (σ.1 17) (σ.1 12) a b) (parS_9 σ a b) σ)) ga_nox := by
      refine (T_X3_joinParallel_9 a b σ h1 h2 h3 h4 hk hk2 hz hz2).mono ?_ (fun _ _ z => z)
      rintro v h2 (⟨q1, q2, q3⟩ | ⟨q1, q2, q3⟩)
      · exact ⟨by rw [q2, tv1 q1], by rw [q3, tif1 q1]⟩
      · exact ⟨by rw [q2, tvz q1], by rw [q3, tif0 q1]⟩
    refine ga_aload_n dX3_joinPair_4 rfl ?_
    refine ga_aload_n dX3_joinPair_5 rfl ?_
    refine ga_iload dX3_joinPair_6 rfl ?_
    refine ga_iload dX3_joinPair_8 rfl ?_
    refine hc_S (T) fX3_joinParallel rfl kX3_joinParallel lkX3_54 dX3_joinPair_10 rfl rfl rfl rfl rfl rfl ?_
    refine ga_goto (tgt := 26) dX3_joinPair_13 rfl ?_
    refine ga_ret (v := some _) ?_ rfl (by decide) (by decide) ⟨dX3_joinPair_26, _, rfl, tv_nb⟩
    exact ⟨rfl, rfl⟩
abbrev sok_9 (σ : ga_S) (N D : Nat) : Prop := sok (σ.1 9) (σ.1 12) (σ.1 15) (σ.2 13) N D
def CJ_9 (r : Int) (σ : ga_S) (a b : Nat) : Prop := (σ.1 14 a = 0 ∧ σ.1 14 b = 0 ∧ σ.1 12 a = σ.1 12 b) ∧ jC_9 r σ a b
def FPost_9 (r : Int) (D : Nat) (τ : ga_S) : ga_Po := fun v h => (∃ a b : Nat, FstP (CJ_9 r τ) D a b ∧ v = some (Vi 1) ∧ h = HP (jS_9 r τ a b)) ∨ ((∀ a b : Nat, a < b → b < D → ¬ CJ_9 r τ a b) ∧ v = some (Vi 0) ∧ h = HP τ)
theorem W_joinFirstPair_9 (r : Int) (τ : ga_S) (N D : Nat) (hs : sok_9 τ N D) (y z : Option ga_V) : ga_W 4 0 0 0 0 mX3_joinFirstPair (FPost_9 r D τ) ga_nox 5 [some (Vr 19), some (Vr 9), some (Vr 16), some (Vi r), y, z] [] (HP τ) := by
  obtain ⟨hN, hN2, hD, hD2, hkd, hsz, hpin⟩ := hs
  refine ga_iconst dX3_joinFirstPair_5 ⟨by decide, by decide⟩ ?_
  refine ga_istore (lv2 := [_, _, _, _, _, _]) dX3_joinFirstPair_6 (by decide) rfl rfl ?_
  refine (ga_loop D (fun i => ∀ z, (∀ a b : Nat, a < b → b < D → a < i → ¬ CJ_9 r τ a b) → ga_W 4 0 0 0 0 mX3_joinFirstPair (FPost_9 r D τ) ga_nox 8 [some (Vr 19), some (Vr 9), some (Vr 16), some (Vi r), some (Vi (i : Int)), z] [] (HP τ)) ?_ ?_ 0 (Nat.zero_le _) _ (fun _ _ _ _ q => absurd q (Nat.not_lt_zero _)) : _)
  · intro z hno
    refine ga_iload dX3_joinFirstPair_8 rfl ?_
    refine ga_aload_n dX3_joinFirstPair_10 rfl ?_
    refine hg_getI 3 grX3_23 dX3_joinFirstPair_11 rfl rfl rfl ?_
    refine ga_icmp_ge (tgt := 71) dX3_joinFirstPair_14 rfl (fun c_14 => ?_) (fun c_14 => ?_)
    · refine ga_iconst dX3_joinFirstPair_71 ⟨by decide, by decide⟩ ?_
      refine ga_ret (v := some _) ?_ rfl (by decide) (by decide) ⟨dX3_joinFirstPair_72, _, rfl, rfl⟩
      exact Or.inr ⟨fun a b h1 h2 => hno a b h1 h2 (by omega), rfl, rfl⟩
    · omega
  · intro i hi k z hno
    refine ga_iload dX3_joinFirstPair_8 rfl ?_
    refine ga_aload_n dX3_joinFirstPair_10 rfl ?_
    refine hg_getI 3 grX3_23 dX3_joinFirstPair_11 rfl rfl rfl ?_
    refine ga_icmp_ge (tgt := 71) dX3_joinFirstPair_14 rfl (fun c_14 => ?_) (fun c_14 => ?_)
    · omega
    · refine ga_iload dX3_joinFirstPair_17 rfl ?_
      refine ga_iconst dX3_joinFirstPair_19 ⟨by decide, by decide⟩ ?_
      refine ga_iadd (z := ((i + 1 : Nat) : Int)) dX3_joinFirstPair_20 (by omega) (⟨by omega, by omega⟩) ?_
      refine ga_istore (lv2 := [_, _, _, _, _, _]) dX3_joinFirstPair_21 (by decide) rfl rfl ?_
      refine (ga_loop D (fun j => i < j → (∀ b : Nat, i < b → b < j → ¬ CJ_9 r τ i b) → ga_W 4 0 0 0 0 mX3_joinFirstPair (FPost_9 r D τ) ga_nox 23 [some (Vr 19), some (Vr 9), some (Vr 16), some (Vi r), some (Vi (i : Int)), some (Vi (j : Int))] [] (HP τ)) ?_ ?_ (i + 1) (by omega) (by omega) (fun b h1 h2 => absurd h2 (by omega)) : _)
      · intro _ hno2
        refine ga_iload dX3_joinFirstPair_23 rfl ?_
        refine ga_aload_n dX3_joinFirstPair_25 rfl ?_
        refine hg_getI 3 grX3_23 dX3_joinFirstPair_26 rfl rfl rfl ?_
        refine ga_icmp_ge (tgt := 65) dX3_joinFirstPair_29 rfl (fun c_29 => ?_) (fun c_29 => ?_)
        · refine ga_iinc (z := ((i + 1 : Nat) : Int)) (lv2 := [_, _, _, _, _, _]) dX3_joinFirstPair_65 (by decide) rfl rfl (by omega) (⟨by omega, by omega⟩) rfl ?_
          refine ga_goto (tgt := 8) dX3_joinFirstPair_68 rfl ?_
          refine k _ (fun a b h1 h2 h3 => ?_)
          rcases Nat.lt_or_ge a i with q | q
          · exact hno a b h1 h2 q
          · have : a = i := by omega
            subst this
            exact hno2 b h1 h2
        · omega
      · intro j hj k2 hij hno2
        have ki := hkd i (by omega) (by omega)
        have kj := hkd j (by omega) (by omega)
        have GO : ¬ CJ_9 r τ i j → ga_W 4 0 0 0 0 mX3_joinFirstPair (FPost_9 r D τ) ga_nox 59 [some (Vr 19), some (Vr 9), some (Vr 16), some (Vi r), some (Vi (i : Int)), some (Vi (j : Int))] [] (HP τ) := by
          intro hno3
          refine ga_iinc (z := ((j + 1 : Nat) : Int)) (lv2 := [_, _, _, _, _, _]) dX3_joinFirstPair_59 (by decide) rfl rfl (by omega) (⟨by omega, by omega⟩) rfl ?_
          refine ga_goto (tgt := 23) dX3_joinFirstPair_62 rfl ?_
          refine k2 (by omega) (fun b h1 h2 => ?_)
          rcases Nat.lt_or_ge b j with q | q
          · exact hno2 b h1 q
          · have : b = j := by omega
            subst this
            exact hno3
        refine ga_iload dX3_joinFirstPair_23 rfl ?_
        refine ga_aload_n dX3_joinFirstPair_25 rfl ?_
        refine hg_getI 3 grX3_23 dX3_joinFirstPair_26 rfl rfl rfl ?_
        refine ga_icmp_ge (tgt := 65) dX3_joinFirstPair_29 rfl (fun c_29 => ?_) (fun c_29 => ?_)
        · omega
        · refine ga_aload_n dX3_joinFirstPair_32 rfl ?_
          refine ga_iload dX3_joinFirstPair_33 rfl ?_
          refine ga_iload dX3_joinFirstPair_35 rfl ?_
          refine hc_S (T_X3_areOfOneKind_9 i j τ (by omega) (by omega) (by omega) (by omega)) fX3_areOfOneKind rfl kX3_areOfOneKind lkX3_29 dX3_joinFirstPair_37 rfl rfl rfl rfl rfl rfl ?_
          refine ga_if_eq (tgt := 59) dX3_joinFirstPair_40 rfl (fun c_40 => ?_) (fun c_40 => ?_)
          · rw [tv_eq0] at c_40
            exact GO (fun q => c_40 q.1)
          · rw [tv_ne0] at c_40
            have p0 := hpin ((i : Int) * 4 + 0) (by omega) (by omega)
            have p1 := hpin ((i : Int) * 4 + 1) (by omega) (by omega)
            refine ga_aload_n dX3_joinFirstPair_43 rfl ?_
            refine ga_aload_n dX3_joinFirstPair_44 rfl ?_
            refine ga_aload_n dX3_joinFirstPair_45 rfl ?_
            refine ga_iload_n dX3_joinFirstPair_46 rfl ?_
            refine ga_iload dX3_joinFirstPair_47 rfl ?_
            refine ga_iload dX3_joinFirstPair_49 rfl ?_
            refine hc_V (T_X3_joinPair_9 r i j τ (by omega) (by omega) (by omega) (by omega) ki kj (hsz i (by omega) (by omega)) (hsz j (by omega) (by omega)) ⟨p0.1, by omega⟩ ⟨p1.1, by omega⟩) fX3_joinPair rfl kX3_joinPair lkX3_33 dX3_joinFirstPair_51 rfl rfl rfl rfl rfl rfl rfl rfl ?_
            refine ga_if_eq (tgt := 59) dX3_joinFirstPair_54 rfl (fun c_54 => ?_) (fun c_54 => ?_)
            · rw [tv_eq0] at c_54
              rw [tif0 c_54]
              exact GO (fun q => c_54 q.2)
            · rw [tv_ne0] at c_54
              rw [tif1 c_54]
              refine ga_iconst dX3_joinFirstPair_57 ⟨by decide, by decide⟩ ?_
              refine ga_ret (v := some _) ?_ rfl (by decide) (by decide) ⟨dX3_joinFirstPair_58, _, rfl, rfl⟩
              refine Or.inl ⟨i, j, ⟨hij, hj, ⟨c_40, c_54⟩, fun a b h1 h2 h3 => ?_⟩, rfl, rfl⟩
              rcases h3 with q | ⟨q, q2⟩
              · exact hno a b h1 h2 q
              · subst q
                exact hno2 b h1 q2
noncomputable def cntS_9 (σ : ga_S) (D : Nat) : ga_S := stI σ 20 (paF (σ.1 14) (σ.1 15) (σ.1 20) (4 * D))
theorem T_X3_joinFirstPair_9 (r : Int) (σ : ga_S) (N D : Nat) (hs : sok_9 σ N D) : ga_Mt 4 0 0 mX3_joinFirstPair [Vr 19, Vr 9, Vr 16, Vi r] (HP σ) (FPost_9 r D (cntS_9 σ D)) ga_nox := by
  refine ga_meth [some (Vr 19), some (Vr 9), some (Vr 16), some (Vi r), none, none] rfl rfl (by decide +kernel) (Nat.le_of_ble_eq_true rfl) rfl ?_
  have hs2 := hs
  obtain ⟨hN, hN2, hD, hD2, hkd, hsz, hpin⟩ := hs2
  refine ga_aload_n dX3_joinFirstPair_0 rfl ?_
  refine ga_aload_n dX3_joinFirstPair_1 rfl ?_
  refine hc_Vv (T_X3_countPins_9 σ N D hN2 hD hD2 hpin) fX3_countPins rfl kX3_countPins lkX3_19 dX3_joinFirstPair_2 rfl rfl rfl rfl rfl rfl rfl rfl ?_
  exact W_joinFirstPair_9 r (cntS_9 σ D) N D (show sok_9 (cntS_9 σ D) N D from hs) none none
theorem sok_jS_9 {r : Int} {τ : ga_S} {N D a b : Nat} (hs : sok_9 τ N D) (h : FstP (CJ_9 r τ) D a b) : sok_9 (jS_9 r τ a b) N D := by
  obtain ⟨hN, hN2, hD, hD2, hkd, hsz, hpin⟩ := hs
  obtain ⟨h1, h2, hc, _⟩ := h
  unfold jS_9
  split
  · refine ⟨hN, hN2, hD, hD2, hkd, fun d h3 h4 => ?_, hpin⟩
    show SzG (ga_up (τ.2 13) (a : Int) _ d)
    unfold ga_up
    split
    · exact SzG_add (hsz a (by omega) (by omega)) (hsz b (by omega) (by omega))
    · exact hsz d h3 h4
  · refine ⟨hN, hN2, hD, hD2, hkd, fun d h3 h4 => ?_, fun j h3 h4 => ?_⟩
    · show SzG (ga_up (τ.2 13) (a : Int) _ d)
      unfold ga_up
      split
      · exact SzG_serC (hsz a (by omega) (by omega)) (hsz b (by omega) (by omega))
      · exact hsz d h3 h4
    · refine ga_up_in (P := fun x : Int => -1 ≤ x ∧ x < N) ?_ (hpin j h3 h4)
      split
      · exact hpin _ (by omega) (by omega)
      · exact hpin _ (by omega) (by omega)
/-- n joinings from one state to another -/
def Jn_9 (r : Int) (D : Nat) : Nat → ga_S → ga_S → Prop
  | 0, σ, σ2 => (∀ a b : Nat, a < b → b < D → ¬ CJ_9 r (cntS_9 σ D) a b) ∧ σ2 = cntS_9 σ D
  | n + 1, σ, σ2 => ∃ a b : Nat, FstP (CJ_9 r (cntS_9 σ D)) D a b ∧ Jn_9 r D n (jS_9 r (cntS_9 σ D) a b) σ2
theorem T_X3_joinAll_9 (r : Int) (σ σ2 : ga_S) (N D n : Nat) (hs : sok_9 σ N D) (hn : n < 30) (hj : Jn_9 r D n σ σ2) : ga_Mt 5 0 0 mX3_joinAll [Vr 19, Vr 9, Vr 16, Vi r] (HP σ) (gis none σ2) ga_nox := by
  refine ga_meth [some (Vr 19), some (Vr 9), some (Vr 16), some (Vi r), none] rfl rfl (by decide +kernel) (Nat.le_of_ble_eq_true rfl) rfl ?_
  refine ga_iconst dX3_joinAll_0 ⟨by decide, by decide⟩ ?_
  refine ga_istore (lv2 := [_, _, _, _, _]) dX3_joinAll_1 (by decide) rfl rfl ?_
  have key : ∀ n i : Nat, i + n < 30 → ∀ σ : ga_S, sok_9 σ N D → Jn_9 r D n σ σ2 → ga_W 5 0 0 0 0 mX3_joinAll (gis none σ2) ga_nox 3 [some (Vr 19), some (Vr 9), some (Vr 16), some (Vi r), some (Vi (i : Int))] [] (HP σ) := by
    intro n
    induction n with
    | zero =>
      intro i hi σ hs hj
      refine ga_iload dX3_joinAll_3 rfl ?_
      refine ga_bipush dX3_joinAll_5 ⟨by decide, by decide⟩ (by decide) ?_
      refine ga_icmp_ge (tgt := 27) dX3_joinAll_7 rfl (fun c_7 => ?_) (fun c_7 => ?_)
      · omega
      · refine ga_aload_n dX3_joinAll_10 rfl ?_
        refine ga_aload_n dX3_joinAll_11 rfl ?_
        refine ga_aload_n dX3_joinAll_12 rfl ?_
        refine ga_iload_n dX3_joinAll_13 rfl ?_
        refine hc_VP (T_X3_joinFirstPair_9 r σ N D hs) fX3_joinFirstPair rfl kX3_joinFirstPair lkX3_15 dX3_joinAll_14 rfl rfl rfl rfl rfl rfl rfl rfl ?_
        rintro v h2 (⟨a, b, q1, q2, q3⟩ | ⟨q1, q2, q3⟩)
        · exact absurd q1.2.2.1 (hj.1 a b q1.1 q1.2.1)
        · rw [q2, q3, hj.2]
          refine ga_if_ne (tgt := 21) dX3_joinAll_17 rfl (fun c_17 => ?_) (fun c_17 => ?_)
          · exact absurd rfl c_17
          · refine ga_ret (v := none) ?_ rfl (by decide) (by decide) ⟨dX3_joinAll_20, rfl⟩
            exact ⟨rfl, rfl⟩
    | succ n ih =>
      intro i hi σ hs hj
      refine ga_iload dX3_joinAll_3 rfl ?_
      refine ga_bipush dX3_joinAll_5 ⟨by decide, by decide⟩ (by decide) ?_
      refine ga_icmp_ge (tgt := 27) dX3_joinAll_7 rfl (fun c_7 => ?_) (fun c_7 => ?_)
      · omega
      · refine ga_aload_n dX3_joinAll_10 rfl ?_
        refine ga_aload_n dX3_joinAll_11 rfl ?_
        refine ga_aload_n dX3_joinAll_12 rfl ?_
        refine ga_iload_n dX3_joinAll_13 rfl ?_
        refine hc_VP (T_X3_joinFirstPair_9 r σ N D hs) fX3_joinFirstPair rfl kX3_joinFirstPair lkX3_15 dX3_joinAll_14 rfl rfl rfl rfl rfl rfl rfl rfl ?_
        rintro v h2 (⟨a, b, q1, q2, q3⟩ | ⟨q1, q2, q3⟩)
        · obtain ⟨a2, b2, f1, f2⟩ := hj
          obtain ⟨e1, e2⟩ := FstP_one q1 f1
          subst e1; subst e2
          rw [q2, q3]
          refine ga_if_ne (tgt := 21) dX3_joinAll_17 rfl (fun c_17 => ?_) (fun c_17 => ?_)
          · refine ga_iinc (z := ((i + 1 : Nat) : Int)) (lv2 := [_, _, _, _, _]) dX3_joinAll_21 (by decide) rfl rfl (by omega) (⟨by omega, by omega⟩) rfl ?_
            refine ga_goto (tgt := 3) dX3_joinAll_24 rfl ?_
            exact ih (i + 1) (by omega) (jS_9 r (cntS_9 σ D) a b) (sok_jS_9 hs q1) f2
          · exact absurd c_17 (by decide)
        · obtain ⟨a2, b2, f1, f2⟩ := hj
          exact absurd f1.2.2.1 (q1 a2 b2 f1.1 f1.2.1)
  exact key n 0 (by omega) σ hs hj
