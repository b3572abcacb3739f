-- the JDK's fill and min; Kinds; Designs
def fillF (f : Int → Int) (n v : Int) : Int → Int := fun j => if 0 ≤ j ∧ j < n then v else f j
theorem fillF_s (f : Int → Int) (i : Nat) (v : Int) : ga_up (fillF f i v) (i : Int) v = fillF f ((i + 1 : Nat) : Int) v := by
  funext j
  unfold ga_up fillF
  by_cases hj : j = (i : Int)
  · rw [if_pos hj, if_pos (by omega)]
  · rw [if_neg hj]
    by_cases h2 : 0 ≤ j ∧ j < (i : Int)
    · rw [if_pos h2, if_pos (by omega)]
    · rw [if_neg h2, if_neg (by omega)]
theorem fillF_0 (f : Int → Int) (v : Int) : fillF f ((0 : Nat) : Int) v = f := by
  funext j
  unfold fillF
  rw [if_neg (by omega)]
theorem fillF_in {f : Int → Int} {n v j : Int} (h : 0 ≤ j ∧ j < n) : fillF f n v j = v := if_pos h
theorem T_fill {q n : Nat} {f : Int → Int} {v : Int} {h : ga_H} (hq : h[q]? = some (.inr (.inl (0, n, f)))) (hn : n ≤ 60000) : ga_Mt 0 0 0 mJ7_fill_53178 [Vr q, Vi v] h (fun v2 h2 => v2 = none ∧ h2 = h.set q (.inr (.inl (0, n, fillF f n v)))) ga_nox := by
  have hql : q < h.length := (List.getElem?_eq_some_iff.mp hq).1
  refine ga_meth [some (Vr q), some (Vi v), none, none] rfl rfl (by decide +kernel) (Nat.le_of_ble_eq_true rfl) rfl ?_
  refine ga_iconst dJ7_fill_53178_0 ⟨by decide, by decide⟩ ?_
  refine ga_istore_n (lv2 := [_, _, _, _]) dJ7_fill_53178_1 (by decide) rfl rfl ?_
  refine ga_aload_n dJ7_fill_53178_2 rfl ?_
  refine ga_alen dJ7_fill_53178_3 hq rfl ⟨by omega, by omega⟩ ?_
  refine ga_istore_n (lv2 := [_, _, _, _]) dJ7_fill_53178_4 (by decide) rfl rfl ?_
  have L1 := ga_loop n (fun i => ga_W 0 0 0 0 0 mJ7_fill_53178 (fun v2 h2 => v2 = none ∧ h2 = h.set q (.inr (.inl (0, n, fillF f n v)))) ga_nox 5 [some (Vr q), some (Vi v), some (Vi (i : Int)), some (Vi (n : Int))] [] (h.set q (.inr (.inl (0, n, fillF f i v))))) ?_ ?_ 0 (Nat.zero_le _)
  · rw [fillF_0, show h.set q (.inr (.inl (0, n, f))) = h from by
      apply List.ext_getElem?
      intro i
      by_cases hi : q = i
      · subst hi
        rw [List.getElem?_set_self hql, hq]
      · rw [List.getElem?_set_ne hi]] at L1
    exact L1
  · refine ga_iload_n dJ7_fill_53178_5 rfl ?_
    refine ga_iload_n dJ7_fill_53178_6 rfl ?_
    refine ga_icmp_ge (tgt := 20) dJ7_fill_53178_7 rfl (fun c_7 => ?_) (fun c_7 => ?_)
    · refine ga_ret (v := none) ?_ rfl (by decide) (by decide) ⟨dJ7_fill_53178_20, rfl⟩
      exact ⟨rfl, rfl⟩
    · omega
  · intro i hi k
    refine ga_iload_n dJ7_fill_53178_5 rfl ?_
    refine ga_iload_n dJ7_fill_53178_6 rfl ?_
    refine ga_icmp_ge (tgt := 20) dJ7_fill_53178_7 rfl (fun c_7 => ?_) (fun c_7 => ?_)
    · omega
    · refine ga_aload_n dJ7_fill_53178_10 rfl ?_
      refine ga_iload_n dJ7_fill_53178_11 rfl ?_
      refine ga_iload_n dJ7_fill_53178_12 rfl ?_
      refine ga_iastore dJ7_fill_53178_13 (List.getElem?_set_self hql) (by omega) (by omega) rfl ?_
      refine ga_iinc (z := ((i + 1 : Nat) : Int)) (lv2 := [_, _, _, _]) dJ7_fill_53178_14 (by decide) rfl rfl (by omega) (⟨by omega, by omega⟩) rfl ?_
      refine ga_goto (tgt := 5) dJ7_fill_53178_17 rfl ?_
      rw [fillF_s, List.set_set]
      exact k
theorem T_J7_fill {q n : Nat} {v : Int} {σ : ga_S} (hq : SH[q]? = some (.inr (0, n))) (hn : n ≤ 60000) : ga_Mt 0 0 0 mJ7_fill_53178 [Vr q, Vi v] (HP σ) (gis none (stI σ q (fillF (σ.1 q) n v))) ga_nox :=
  (T_fill (f := σ.1 q) (HP_get hq) hn).mono (fun v2 h2 hp => ⟨hp.1, hp.2.trans (HP_st0 hq)⟩) (fun _ _ z => z)
def imin (x y : Int) : Int := if x ≤ y then x else y
section GaMin
variable {t mc ms kc ks : Nat} {M : ga_M0} {P : ga_Po} {X : ga_Px} {pc : Nat} {lv : List (Option ga_V)} {st : List ga_V} {h : ga_H}
theorem ga_min {x y : Int} {idx : Nat} (hw1 : Cond.methodLink (ga_y M).cls idx yJ9_min_7cf53 ∈ ga_big) (hd : decode (ga_b M) pc = .ok (.invokestatic idx, 3)) (ht : Nat.ble 1 t = true) (hcat : Nat.ble (ga_cats st) 8 = true) (hkc : Nat.ble kc mc = true) (hks : Nat.ble ks ms = true) (k : ga_W t mc ms kc ks M P X (pc + 3) lv (Vi (imin x y) :: st) h) : ga_W t mc ms kc ks M P X pc lv (Vi y :: Vi x :: st) h := by
  intro p l e R s m args below meth c G tc A ad0 ad n0 H locs ls Q hC hP hl hol hos
  have hRR := hC.2.2.2.2.2.2.2.2.2.2.2.2.2.2.2.1
  have hts := hC.2.2.2.2.2.1
  have hy9 : ga_inI y := hos.head
  have hx9 : ga_inI x := hos.tail.head
  have hok : ga_inI (imin x y) := by unfold imin; split; exact hx9; exact hy9
  have ht9 := Nat.le_of_ble_eq_true ht
  have hc9 := Nat.le_of_ble_eq_true hcat
  have hkc9 := Nat.le_of_ble_eq_true hkc
  have hks9 := Nat.le_of_ble_eq_true hks
  refine va_mmin hC.1 hC.2.1 (by rw [hC.2.2.1]; exact hl.1.symm) hC.2.2.2.2.1 (hts _ hw1) (hts _ kJ9_min_7cf53) (hts _ fJ9_min_7cf53.2.1) (hts _ fJ9_min_7cf53.1) (by omega) (by rw [ga_cats_eq]; omega) (by omega) (by omega) hd ?_
  rw [show (if Int32.ofInt y < Int32.ofInt x then Int32.ofInt y else Int32.ofInt x) = Int32.ofInt (imin x y) from by
    unfold imin
    simp only [ga_lt hy9 hx9]
    by_cases q : x ≤ y
    · rw [if_pos q, if_neg (by omega)]
    · rw [if_neg q, if_pos (by omega)]]
  exact k p l e R s m args below meth c G tc A ad0 ad n0 H locs ls Q hC hP hl hol (ga_oks.cons (v := Vi (imin x y)) hok hos.tail.tail)
end GaMin
-- Kinds
theorem T_X4_groupOf (kd k : Int) (σ : ga_S) (h1 : 0 ≤ kd) (h2 : kd < 8) (h3 : 0 ≤ k) (h4 : k < 4) : ga_Mt 0 0 0 mX4_groupOf [Vr 16, Vi kd, Vi k] (HP σ) (gis (some (Vi (σ.1 17 (kd * 4 + k)))) σ) ga_nox := by
  refine ga_meth [some (Vr 16), some (Vi kd), some (Vi k)] rfl rfl (by decide +kernel) (Nat.le_of_ble_eq_true rfl) rfl ?_
  refine ga_aload_n dX4_groupOf_0 rfl ?_
  refine hg_getR grX4_9 dX4_groupOf_1 rfl rfl ?_
  refine ga_iload_n dX4_groupOf_4 rfl ?_
  refine ga_iconst dX4_groupOf_5 ⟨by decide, by decide⟩ ?_
  refine ga_imul dX4_groupOf_6 rfl (⟨by omega, by omega⟩) ?_
  refine ga_iload_n dX4_groupOf_7 rfl ?_
  refine ga_iadd dX4_groupOf_8 rfl (⟨by omega, by omega⟩) ?_
  refine hg_iald dX4_groupOf_9 rfl (by omega) (by omega) ?_
  refine ga_ret (v := some _) ?_ rfl (by decide) (by decide) ⟨dX4_groupOf_10, _, rfl, rfl⟩
  exact ⟨rfl, rfl⟩
/-- the groups of a kind's first m pins, two of them made one -/
def unF (f : Int → Int) (kd a b m : Int) : Int → Int := fun j => if kd * 4 ≤ j ∧ j < kd * 4 + m ∧ (f j = a ∨ f j = b) then imin a b else f j
theorem unF_0 (f : Int → Int) (kd a b : Int) : unF f kd a b ((0 : Nat) : Int) = f := by
  funext j; unfold unF; rw [if_neg (by omega)]
theorem unF_yes {f : Int → Int} {kd a b : Int} {i : Nat} (h : f (kd * 4 + i) = a ∨ f (kd * 4 + i) = b) : ga_up (unF f kd a b i) (kd * 4 + i) (imin a b) = unF f kd a b ((i + 1 : Nat) : Int) := by
  funext j
  unfold ga_up unF
  by_cases hj : j = kd * 4 + i
  · rw [if_pos hj, if_pos ⟨by omega, by omega, by rw [hj]; exact h⟩]
  · rw [if_neg hj]
    by_cases h2 : kd * 4 ≤ j ∧ j < kd * 4 + i ∧ (f j = a ∨ f j = b)
    · rw [if_pos h2, if_pos ⟨h2.1, by omega, h2.2.2⟩]
    · rw [if_neg h2, if_neg (fun z => h2 ⟨z.1, by omega, z.2.2⟩)]
theorem unF_no {f : Int → Int} {kd a b : Int} {i : Nat} (h : ¬ (f (kd * 4 + i) = a ∨ f (kd * 4 + i) = b)) : unF f kd a b i = unF f kd a b ((i + 1 : Nat) : Int) := by
  funext j
  unfold unF
  by_cases h2 : kd * 4 ≤ j ∧ j < kd * 4 + i ∧ (f j = a ∨ f j = b)
  · rw [if_pos h2, if_pos ⟨h2.1, by omega, h2.2.2⟩]
  · rw [if_neg h2, if_neg (fun z => h2 ⟨z.1, by
      rcases Int.lt_or_le j (kd * 4 + i) with q | q
      · exact q
      · exfalso
        rw [show j = kd * 4 + i by omega] at z
        exact h z.2.2, z.2.2⟩)]
theorem unF_at {f : Int → Int} {kd a b : Int} {i : Nat} : unF f kd a b i (kd * 4 + i) = f (kd * 4 + i) := by
  unfold unF; rw [if_neg (by omega)]
theorem T_X4_uniteGroups (kd a b : Int) (σ : ga_S) (h1 : 0 ≤ kd) (h2 : kd < 8) (h3 : 0 ≤ a) (h4 : a < 4) (h5 : 0 ≤ b) (h6 : b < 4) : ga_Mt 1 0 0 mX4_uniteGroups [Vr 16, Vi kd, Vi a, Vi b] (HP σ) (gis (some (Vi (tv (σ.1 17 (kd * 4 + a) ≠ σ.1 17 (kd * 4 + b))))) (if σ.1 17 (kd * 4 + a) = σ.1 17 (kd * 4 + b) then σ else stI σ 17 (unF (σ.1 17) kd (σ.1 17 (kd * 4 + a)) (σ.1 17 (kd * 4 + b)) 4))) ga_nox := by
  refine ga_meth [some (Vr 16), some (Vi kd), some (Vi a), some (Vi b), none, none, none, none] rfl rfl (by decide +kernel) (Nat.le_of_ble_eq_true rfl) rfl ?_
  refine ga_aload_n dX4_uniteGroups_0 rfl ?_
  refine ga_iload_n dX4_uniteGroups_1 rfl ?_
  refine ga_iload_n dX4_uniteGroups_2 rfl ?_
  refine hc_V (T_X4_groupOf kd a σ h1 h2 h3 h4) fX4_groupOf rfl kX4_groupOf lkX4_19 dX4_uniteGroups_3 rfl rfl rfl rfl rfl rfl rfl rfl ?_
  refine ga_istore (lv2 := [_, _, _, _, _, _, _, _]) dX4_uniteGroups_6 (by decide) rfl rfl ?_
  refine ga_aload_n dX4_uniteGroups_8 rfl ?_
  refine ga_iload_n dX4_uniteGroups_9 rfl ?_
  refine ga_iload_n dX4_uniteGroups_10 rfl ?_
  refine hc_V (T_X4_groupOf kd b σ h1 h2 h5 h6) fX4_groupOf rfl kX4_groupOf lkX4_19 dX4_uniteGroups_11 rfl rfl rfl rfl rfl rfl rfl rfl ?_
  refine ga_istore (lv2 := [_, _, _, _, _, _, _, _]) dX4_uniteGroups_14 (by decide) rfl rfl ?_
  refine ga_iload dX4_uniteGroups_16 rfl ?_
  refine ga_iload dX4_uniteGroups_18 rfl ?_
  refine ga_icmp_ne (tgt := 25) dX4_uniteGroups_20 rfl (fun c_20 => ?_) (fun c_20 => ?_)
  · rw [if_neg c_20, tv1 c_20]
    refine ga_iconst dX4_uniteGroups_25 ⟨by decide, by decide⟩ ?_
    refine ga_istore (lv2 := [_, _, _, _, _, _, _, _]) dX4_uniteGroups_26 (by decide) rfl rfl ?_
    have L1 := ga_loop 4 (fun i => ∀ z, ga_W 1 0 0 0 0 mX4_uniteGroups (gis (some (Vi 1)) (stI σ 17 (unF (σ.1 17) kd (σ.1 17 (kd * 4 + a)) (σ.1 17 (kd * 4 + b)) 4))) ga_nox 28 [some (Vr 16), some (Vi kd), some (Vi a), some (Vi b), some (Vi (σ.1 17 (kd * 4 + a))), some (Vi (σ.1 17 (kd * 4 + b))), some (Vi (i : Int)), z] [] (HP (stI σ 17 (unF (σ.1 17) kd (σ.1 17 (kd * 4 + a)) (σ.1 17 (kd * 4 + b)) i)))) ?_ ?_ 0 (Nat.zero_le _)
    · rw [unF_0, stI_self] at L1
      exact L1 _
    · intro z
      refine ga_iload dX4_uniteGroups_28 rfl ?_
      refine ga_iconst dX4_uniteGroups_30 ⟨by decide, by decide⟩ ?_
      refine ga_icmp_ge (tgt := 81) dX4_uniteGroups_31 rfl (fun c_31 => ?_) (fun c_31 => ?_)
      · refine ga_iconst dX4_uniteGroups_81 ⟨by decide, by decide⟩ ?_
        refine ga_ret (v := some _) ?_ rfl (by decide) (by decide) ⟨dX4_uniteGroups_82, _, rfl, rfl⟩
        exact ⟨rfl, rfl⟩
      · omega
    · intro i hi k z
      refine ga_iload dX4_uniteGroups_28 rfl ?_
      refine ga_iconst dX4_uniteGroups_30 ⟨by decide, by decide⟩ ?_
      refine ga_icmp_ge (tgt := 81) dX4_uniteGroups_31 rfl (fun c_31 => ?_) (fun c_31 => ?_)
      · omega
      · refine ga_aload_n dX4_uniteGroups_34 rfl ?_
        refine ga_iload_n dX4_uniteGroups_35 rfl ?_
        refine ga_iload dX4_uniteGroups_36 rfl ?_
        refine hc_V (T_X4_groupOf kd i _ h1 h2 (by omega) (by omega)) fX4_groupOf rfl kX4_groupOf lkX4_19 dX4_uniteGroups_38 rfl rfl rfl rfl rfl rfl rfl rfl ?_
        refine ga_istore (lv2 := [_, _, _, _, _, _, _, _]) dX4_uniteGroups_41 (by decide) rfl rfl ?_
        rw [stI_at, unF_at]
        refine ga_iload dX4_uniteGroups_43 rfl ?_
        refine ga_iload dX4_uniteGroups_45 rfl ?_
        refine ga_icmp_eq (tgt := 57) dX4_uniteGroups_47 rfl (fun c_47 => ?_) (fun c_47 => ?_)
        · have e3 := unF_yes (f := σ.1 17) (kd := kd) (a := σ.1 17 (kd * 4 + a)) (b := σ.1 17 (kd * 4 + b)) (i := i) (Or.inl c_47)
          refine ga_aload_n dX4_uniteGroups_57 rfl ?_
          refine hg_getR grX4_9 dX4_uniteGroups_58 rfl rfl ?_
          refine ga_iload_n dX4_uniteGroups_61 rfl ?_
          refine ga_iconst dX4_uniteGroups_62 ⟨by decide, by decide⟩ ?_
          refine ga_imul dX4_uniteGroups_63 rfl (⟨by omega, by omega⟩) ?_
          refine ga_iload dX4_uniteGroups_64 rfl ?_
          refine ga_iadd dX4_uniteGroups_66 rfl (⟨by omega, by omega⟩) ?_
          refine ga_iload dX4_uniteGroups_67 rfl ?_
          refine ga_iload dX4_uniteGroups_69 rfl ?_
          refine ga_min lkX4_23 dX4_uniteGroups_71 rfl rfl rfl rfl ?_
          refine hg_iast dX4_uniteGroups_74 rfl (by omega) (by omega) ?_
          refine ga_iinc (z := ((i + 1 : Nat) : Int)) (lv2 := [_, _, _, _, _, _, _, _]) dX4_uniteGroups_75 (by decide) rfl rfl (by omega) (⟨by omega, by omega⟩) rfl ?_
          refine ga_goto (tgt := 28) dX4_uniteGroups_78 rfl ?_
          rw [stI_st, stI_at, e3]
          exact k _
        · refine ga_iload dX4_uniteGroups_50 rfl ?_
          refine ga_iload dX4_uniteGroups_52 rfl ?_
          refine ga_icmp_ne (tgt := 75) dX4_uniteGroups_54 rfl (fun c_54 => ?_) (fun c_54 => ?_)
          · have e3 := unF_no (f := σ.1 17) (kd := kd) (a := σ.1 17 (kd * 4 + a)) (b := σ.1 17 (kd * 4 + b)) (i := i) (fun z => z.elim c_47 c_54)
            refine ga_iinc (z := ((i + 1 : Nat) : Int)) (lv2 := [_, _, _, _, _, _, _, _]) dX4_uniteGroups_75 (by decide) rfl rfl (by omega) (⟨by omega, by omega⟩) rfl ?_
            refine ga_goto (tgt := 28) dX4_uniteGroups_78 rfl ?_
            rw [e3]
            exact k _
          · have e3 := unF_yes (f := σ.1 17) (kd := kd) (a := σ.1 17 (kd * 4 + a)) (b := σ.1 17 (kd * 4 + b)) (i := i) (Or.inr c_54)
            refine ga_aload_n dX4_uniteGroups_57 rfl ?_
            refine hg_getR grX4_9 dX4_uniteGroups_58 rfl rfl ?_
            refine ga_iload_n dX4_uniteGroups_61 rfl ?_
            refine ga_iconst dX4_uniteGroups_62 ⟨by decide, by decide⟩ ?_
            refine ga_imul dX4_uniteGroups_63 rfl (⟨by omega, by omega⟩) ?_
            refine ga_iload dX4_uniteGroups_64 rfl ?_
            refine ga_iadd dX4_uniteGroups_66 rfl (⟨by omega, by omega⟩) ?_
            refine ga_iload dX4_uniteGroups_67 rfl ?_
            refine ga_iload dX4_uniteGroups_69 rfl ?_
            refine ga_min lkX4_23 dX4_uniteGroups_71 rfl rfl rfl rfl ?_
            refine hg_iast dX4_uniteGroups_74 rfl (by omega) (by omega) ?_
            refine ga_iinc (z := ((i + 1 : Nat) : Int)) (lv2 := [_, _, _, _, _, _, _, _]) dX4_uniteGroups_75 (by decide) rfl rfl (by omega) (⟨by omega, by omega⟩) rfl ?_
            refine ga_goto (tgt := 28) dX4_uniteGroups_78 rfl ?_
            rw [stI_st, stI_at, e3]
            exact k _
  · rw [if_pos c_20, tvz (fun z => z c_20)]
    refine ga_iconst dX4_uniteGroups_23 ⟨by decide, by decide⟩ ?_
    refine ga_ret (v := some _) ?_ rfl (by decide) (by decide) ⟨dX4_uniteGroups_24, _, rfl, rfl⟩
    exact ⟨rfl, rfl⟩
abbrev dcl (x y : UInt64) : Int := (Op.cmpValue (FP.dcmp x y) CmpOp.l).toInt
abbrev dcg (x y : UInt64) : Int := (Op.cmpValue (FP.dcmp x y) CmpOp.g).toInt
theorem T_X4_setShare (kd : Int) (v : UInt64) (σ : ga_S) (h1 : 0 ≤ kd) (h2 : kd < 8) : ga_Mt 0 0 0 mX4_setShare [Vr 16, Vi kd, Vd v] (HP σ) (gis (some (Vi (tv (¬ dcl (σ.2 18 kd) v = 0)))) (stD σ 18 (ga_up (σ.2 18) kd v))) ga_nox := by
  refine ga_meth [some (Vr 16), some (Vi kd), some (Vd v), none, none] rfl rfl (by decide +kernel) (Nat.le_of_ble_eq_true rfl) rfl ?_
  refine ga_aload_n dX4_setShare_0 rfl ?_
  refine hg_getR grX4_15 dX4_setShare_1 rfl rfl ?_
  refine ga_iload_n dX4_setShare_4 rfl ?_
  refine hg_dald dX4_setShare_5 rfl (by omega) (by omega) ?_
  refine ga_dload_n dX4_setShare_6 rfl ?_
  refine ga_dcmp dX4_setShare_7 (ga_ofI _).symm (ga_inI32 _) ?_
  refine ga_if_eq (tgt := 15) dX4_setShare_8 rfl (fun c_8 => ?_) (fun c_8 => ?_)
  · refine ga_iconst dX4_setShare_15 ⟨by decide, by decide⟩ ?_
    refine ga_istore (lv2 := [_, _, _, _, _]) dX4_setShare_16 (by decide) rfl rfl ?_
    refine ga_aload_n dX4_setShare_18 rfl ?_
    refine hg_getR grX4_15 dX4_setShare_19 rfl rfl ?_
    refine ga_iload_n dX4_setShare_22 rfl ?_
    refine ga_dload_n dX4_setShare_23 rfl ?_
    refine hg_dast dX4_setShare_24 rfl (by omega) (by omega) ?_
    refine ga_iload dX4_setShare_25 rfl ?_
    refine ga_ret (v := some _) ?_ rfl (by decide) (by decide) ⟨dX4_setShare_27, _, rfl, rfl⟩
    exact ⟨tvf (fun z => z c_8), rfl⟩
  · refine ga_iconst dX4_setShare_11 ⟨by decide, by decide⟩ ?_
    refine ga_goto (tgt := 16) dX4_setShare_12 rfl ?_
    refine ga_istore (lv2 := [_, _, _, _, _]) dX4_setShare_16 (by decide) rfl rfl ?_
    refine ga_aload_n dX4_setShare_18 rfl ?_
    refine hg_getR grX4_15 dX4_setShare_19 rfl rfl ?_
    refine ga_iload_n dX4_setShare_22 rfl ?_
    refine ga_dload_n dX4_setShare_23 rfl ?_
    refine hg_dast dX4_setShare_24 rfl (by omega) (by omega) ?_
    refine ga_iload dX4_setShare_25 rfl ?_
    refine ga_ret (v := some _) ?_ rfl (by decide) (by decide) ⟨dX4_setShare_27, _, rfl, rfl⟩
    exact ⟨tvt c_8, rfl⟩
def sgr (a b : UInt64) : UInt64 := if dcl a b < 0 then b else a
def sls (a b : UInt64) : UInt64 := if dcl a b < 0 then a else b
theorem T_X4_sizesAgree (kd : Int) (a b : UInt64) (σ : ga_S) (h1 : 0 ≤ kd) (h2 : kd < 8) (n1 : vf_n64 (FP.dsub (sgr a b) (sls a b))) (n2 : vf_n64 (FP.dmul (σ.2 18 kd) (sgr a b))) : ga_Mt 0 0 0 mX4_sizesAgree [Vr 16, Vi kd, Vd a, Vd b] (HP σ) (gis (some (Vi (tv (dcg (FP.dsub (sgr a b) (sls a b)) (FP.dmul (σ.2 18 kd) (sgr a b)) ≤ 0)))) σ) ga_nox := by
  refine ga_meth [some (Vr 16), some (Vi kd), some (Vd a), none, some (Vd b), none, none, none, none, none] rfl rfl (by decide +kernel) (Nat.le_of_ble_eq_true rfl) rfl ?_
  refine ga_dload_n dX4_sizesAgree_0 rfl ?_
  refine ga_dload dX4_sizesAgree_1 rfl ?_
  refine ga_dcmp dX4_sizesAgree_3 (ga_ofI _).symm (ga_inI32 _) ?_
  refine ga_if_lt (tgt := 11) dX4_sizesAgree_4 rfl (fun c_4 => ?_) (fun c_4 => ?_)
  · rw [show sgr a b = b from if_pos c_4, show sls a b = a from if_pos c_4] at n1
    rw [show sgr a b = b from if_pos c_4] at n2
    rw [show sgr a b = b from if_pos c_4, show sls a b = a from if_pos c_4]
    refine ga_dload dX4_sizesAgree_11 rfl ?_
    refine ga_dstore (lv2 := [_, _, _, _, _, _, _, _, _, _]) dX4_sizesAgree_13 (by decide) rfl rfl ?_
    refine ga_dload_n dX4_sizesAgree_15 rfl ?_
    refine ga_dload dX4_sizesAgree_16 rfl ?_
    refine ga_dcmp dX4_sizesAgree_18 (ga_ofI _).symm (ga_inI32 _) ?_
    refine ga_if_lt (tgt := 27) dX4_sizesAgree_19 rfl (fun c_19 => ?_) (fun c_19 => ?_)
    rotate_left
    · exact absurd c_4 c_19
    refine ga_dload_n dX4_sizesAgree_27 rfl ?_
    refine ga_dstore (lv2 := [_, _, _, _, _, _, _, _, _, _]) dX4_sizesAgree_28 (by decide) rfl rfl ?_
    refine ga_dload dX4_sizesAgree_30 rfl ?_
    refine ga_dload dX4_sizesAgree_32 rfl ?_
    refine ga_dsub dX4_sizesAgree_34 (n1) ?_
    refine ga_aload_n dX4_sizesAgree_35 rfl ?_
    refine hg_getR grX4_15 dX4_sizesAgree_36 rfl rfl ?_
    refine ga_iload_n dX4_sizesAgree_39 rfl ?_
    refine hg_dald dX4_sizesAgree_40 rfl (by omega) (by omega) ?_
    refine ga_dload dX4_sizesAgree_41 rfl ?_
    refine ga_dmul dX4_sizesAgree_43 (n2) ?_
    refine ga_dcmp dX4_sizesAgree_44 (ga_ofI _).symm (ga_inI32 _) ?_
    refine ga_if_gt (tgt := 52) dX4_sizesAgree_45 rfl (fun c_45 => ?_) (fun c_45 => ?_)
    · refine ga_iconst dX4_sizesAgree_52 ⟨by decide, by decide⟩ ?_
      refine ga_ret (v := some _) ?_ rfl (by decide) (by decide) ⟨dX4_sizesAgree_53, _, rfl, rfl⟩
      exact ⟨tvf c_45, rfl⟩
    · refine ga_iconst dX4_sizesAgree_48 ⟨by decide, by decide⟩ ?_
      refine ga_goto (tgt := 53) dX4_sizesAgree_49 rfl ?_
      refine ga_ret (v := some _) ?_ rfl (by decide) (by decide) ⟨dX4_sizesAgree_53, _, rfl, rfl⟩
      exact ⟨tvt c_45, rfl⟩
  · rw [show sgr a b = a from if_neg c_4, show sls a b = b from if_neg c_4] at n1
    rw [show sgr a b = a from if_neg c_4] at n2
    rw [show sgr a b = a from if_neg c_4, show sls a b = b from if_neg c_4]
    refine ga_dload_n dX4_sizesAgree_7 rfl ?_
    refine ga_goto (tgt := 13) dX4_sizesAgree_8 rfl ?_
    refine ga_dstore (lv2 := [_, _, _, _, _, _, _, _, _, _]) dX4_sizesAgree_13 (by decide) rfl rfl ?_
    refine ga_dload_n dX4_sizesAgree_15 rfl ?_
    refine ga_dload dX4_sizesAgree_16 rfl ?_
    refine ga_dcmp dX4_sizesAgree_18 (ga_ofI _).symm (ga_inI32 _) ?_
    refine ga_if_lt (tgt := 27) dX4_sizesAgree_19 rfl (fun c_19 => ?_) (fun c_19 => ?_)
    · exact absurd c_19 c_4
    refine ga_dload dX4_sizesAgree_22 rfl ?_
    refine ga_goto (tgt := 28) dX4_sizesAgree_24 rfl ?_
    refine ga_dstore (lv2 := [_, _, _, _, _, _, _, _, _, _]) dX4_sizesAgree_28 (by decide) rfl rfl ?_
    refine ga_dload dX4_sizesAgree_30 rfl ?_
    refine ga_dload dX4_sizesAgree_32 rfl ?_
    refine ga_dsub dX4_sizesAgree_34 (n1) ?_
    refine ga_aload_n dX4_sizesAgree_35 rfl ?_
    refine hg_getR grX4_15 dX4_sizesAgree_36 rfl rfl ?_
    refine ga_iload_n dX4_sizesAgree_39 rfl ?_
    refine hg_dald dX4_sizesAgree_40 rfl (by omega) (by omega) ?_
    refine ga_dload dX4_sizesAgree_41 rfl ?_
    refine ga_dmul dX4_sizesAgree_43 (n2) ?_
    refine ga_dcmp dX4_sizesAgree_44 (ga_ofI _).symm (ga_inI32 _) ?_
    refine ga_if_gt (tgt := 52) dX4_sizesAgree_45 rfl (fun c_45 => ?_) (fun c_45 => ?_)
    · refine ga_iconst dX4_sizesAgree_52 ⟨by decide, by decide⟩ ?_
      refine ga_ret (v := some _) ?_ rfl (by decide) (by decide) ⟨dX4_sizesAgree_53, _, rfl, rfl⟩
      exact ⟨tvf c_45, rfl⟩
    · refine ga_iconst dX4_sizesAgree_48 ⟨by decide, by decide⟩ ?_
      refine ga_goto (tgt := 53) dX4_sizesAgree_49 rfl ?_
      refine ga_ret (v := some _) ?_ rfl (by decide) (by decide) ⟨dX4_sizesAgree_53, _, rfl, rfl⟩
      exact ⟨tvt c_45, rfl⟩
theorem T_X4_pinsOn_2 (d g n : Int) (σ : ga_S) (h1 : 0 ≤ d) (h2 : d < 30) (h3 : 0 ≤ σ.1 5 d) (h4 : σ.1 5 d < 8) : ga_Mt 1 0 0 mX4_pinsOn [Vr 16, Vr 2, Vi d, Vi g, Vi n] (HP σ) (gis (some (Vi (sz (fun k => tv (σ.1 8 (d * 4 + k) = n ∧ σ.1 17 (σ.1 5 d * 4 + k) = g)) 4))) σ) ga_nox := by
  refine ga_meth [some (Vr 16), some (Vr 2), some (Vi d), some (Vi g), some (Vi n), none, none] rfl rfl (by decide +kernel) (Nat.le_of_ble_eq_true rfl) rfl ?_
  refine ga_iconst dX4_pinsOn_0 ⟨by decide, by decide⟩ ?_
  refine ga_istore (lv2 := [_, _, _, _, _, _, _]) dX4_pinsOn_1 (by decide) rfl rfl ?_
  refine ga_iconst dX4_pinsOn_3 ⟨by decide, by decide⟩ ?_
  refine ga_istore (lv2 := [_, _, _, _, _, _, _]) dX4_pinsOn_4 (by decide) rfl rfl ?_
  refine (ga_loop 4 (fun i => ga_W 1 0 0 0 0 mX4_pinsOn (gis (some (Vi (sz (fun k => tv (σ.1 8 (d * 4 + k) = n ∧ σ.1 17 (σ.1 5 d * 4 + k) = g)) 4))) σ) ga_nox 6 [some (Vr 16), some (Vr 2), some (Vi d), some (Vi g), some (Vi n), some (Vi (sz (fun k => tv (σ.1 8 (d * 4 + k) = n ∧ σ.1 17 (σ.1 5 d * 4 + k) = g)) i)), some (Vi (i : Int))] [] (HP σ)) ?_ ?_ 0 (Nat.zero_le _) : _)
  · refine ga_iload dX4_pinsOn_6 rfl ?_
    refine ga_iconst dX4_pinsOn_8 ⟨by decide, by decide⟩ ?_
    refine ga_icmp_ge (tgt := 49) dX4_pinsOn_9 rfl (fun c_9 => ?_) (fun c_9 => ?_)
    · refine ga_iload dX4_pinsOn_49 rfl ?_
      refine ga_ret (v := some _) ?_ rfl (by decide) (by decide) ⟨dX4_pinsOn_51, _, rfl, rfl⟩
      exact ⟨rfl, rfl⟩
    · omega
  · intro i hi k
    have hb := sz_b (f := fun k => tv (σ.1 8 (d * 4 + k) = n ∧ σ.1 17 (σ.1 5 d * 4 + k) = g)) (n := i) (fun _ => tv_le)
    simp only [sz_s _ i] at k
    refine ga_iload dX4_pinsOn_6 rfl ?_
    refine ga_iconst dX4_pinsOn_8 ⟨by decide, by decide⟩ ?_
    refine ga_icmp_ge (tgt := 49) dX4_pinsOn_9 rfl (fun c_9 => ?_) (fun c_9 => ?_)
    · omega
    · refine ga_aload_n dX4_pinsOn_12 rfl ?_
      refine ga_iload_n dX4_pinsOn_13 rfl ?_
      refine ga_iload dX4_pinsOn_14 rfl ?_
      refine hc_V (T_X9_netOf_2 d i σ h1 h2 (by omega) (by omega)) fX9_netOf rfl kX9_netOf lkX4_28 dX4_pinsOn_16 rfl rfl rfl rfl rfl rfl rfl rfl ?_
      refine ga_iload dX4_pinsOn_19 rfl ?_
      refine ga_icmp_ne (tgt := 43) dX4_pinsOn_21 rfl (fun c_21 => ?_) (fun c_21 => ?_)
      · rw [tvz (fun z => c_21 z.1), Int.add_zero] at k
        refine ga_iinc (z := ((i + 1 : Nat) : Int)) (lv2 := [_, _, _, _, _, _, _]) dX4_pinsOn_43 (by decide) rfl rfl (by omega) (⟨by omega, by omega⟩) rfl ?_
        refine ga_goto (tgt := 6) dX4_pinsOn_46 rfl ?_
        exact k
      · refine ga_aload_n dX4_pinsOn_24 rfl ?_
        refine ga_aload_n dX4_pinsOn_25 rfl ?_
        refine hg_getR grX4_33 dX4_pinsOn_26 rfl rfl ?_
        refine ga_iload_n dX4_pinsOn_29 rfl ?_
        refine hg_iald dX4_pinsOn_30 rfl (by omega) (by omega) ?_
        refine ga_iload dX4_pinsOn_31 rfl ?_
        refine hc_V (T_X4_groupOf (σ.1 5 d) i σ h3 h4 (by omega) (by omega)) fX4_groupOf rfl kX4_groupOf lkX4_19 dX4_pinsOn_33 rfl rfl rfl rfl rfl rfl rfl rfl ?_
        refine ga_iload_n dX4_pinsOn_36 rfl ?_
        refine ga_icmp_ne (tgt := 43) dX4_pinsOn_37 rfl (fun c_37 => ?_) (fun c_37 => ?_)
        · rw [tvz (fun z => c_37 z.2), Int.add_zero] at k
          refine ga_iinc (z := ((i + 1 : Nat) : Int)) (lv2 := [_, _, _, _, _, _, _]) dX4_pinsOn_43 (by decide) rfl rfl (by omega) (⟨by omega, by omega⟩) rfl ?_
          refine ga_goto (tgt := 6) dX4_pinsOn_46 rfl ?_
          exact k
        · rw [tv1 ⟨c_21, c_37⟩] at k
          refine ga_iinc (lv2 := [_, _, _, _, _, _, _]) dX4_pinsOn_40 (by decide) rfl rfl rfl (⟨by omega, by omega⟩) rfl ?_
          refine ga_iinc (z := ((i + 1 : Nat) : Int)) (lv2 := [_, _, _, _, _, _, _]) dX4_pinsOn_43 (by decide) rfl rfl (by omega) (⟨by omega, by omega⟩) rfl ?_
          refine ga_goto (tgt := 6) dX4_pinsOn_46 rfl ?_
          exact k
theorem T_X4_pinsOn_9 (d g n : Int) (σ : ga_S) (h1 : 0 ≤ d) (h2 : d < 30) (h3 : 0 ≤ σ.1 12 d) (h4 : σ.1 12 d < 8) : ga_Mt 1 0 0 mX4_pinsOn [Vr 16, Vr 9, Vi d, Vi g, Vi n] (HP σ) (gis (some (Vi (sz (fun k => tv (σ.1 15 (d * 4 + k) = n ∧ σ.1 17 (σ.1 12 d * 4 + k) = g)) 4))) σ) ga_nox := by
  refine ga_meth [some (Vr 16), some (Vr 9), some (Vi d), some (Vi g), some (Vi n), none, none] rfl rfl (by decide +kernel) (Nat.le_of_ble_eq_true rfl) rfl ?_
  refine ga_iconst dX4_pinsOn_0 ⟨by decide, by decide⟩ ?_
  refine ga_istore (lv2 := [_, _, _, _, _, _, _]) dX4_pinsOn_1 (by decide) rfl rfl ?_
  refine ga_iconst dX4_pinsOn_3 ⟨by decide, by decide⟩ ?_
  refine ga_istore (lv2 := [_, _, _, _, _, _, _]) dX4_pinsOn_4 (by decide) rfl rfl ?_
  refine (ga_loop 4 (fun i => ga_W 1 0 0 0 0 mX4_pinsOn (gis (some (Vi (sz (fun k => tv (σ.1 15 (d * 4 + k) = n ∧ σ.1 17 (σ.1 12 d * 4 + k) = g)) 4))) σ) ga_nox 6 [some (Vr 16), some (Vr 9), some (Vi d), some (Vi g), some (Vi n), some (Vi (sz (fun k => tv (σ.1 15 (d * 4 + k) = n ∧ σ.1 17 (σ.1 12 d * 4 + k) = g)) i)), some (Vi (i : Int))] [] (HP σ)) ?_ ?_ 0 (Nat.zero_le _) : _)
  · refine ga_iload dX4_pinsOn_6 rfl ?_
    refine ga_iconst dX4_pinsOn_8 ⟨by decide, by decide⟩ ?_
    refine ga_icmp_ge (tgt := 49) dX4_pinsOn_9 rfl (fun c_9 => ?_) (fun c_9 => ?_)
    · refine ga_iload dX4_pinsOn_49 rfl ?_
      refine ga_ret (v := some _) ?_ rfl (by decide) (by decide) ⟨dX4_pinsOn_51, _, rfl, rfl⟩
      exact ⟨rfl, rfl⟩
    · omega
  · intro i hi k
    have hb := sz_b (f := fun k => tv (σ.1 15 (d * 4 + k) = n ∧ σ.1 17 (σ.1 12 d * 4 + k) = g)) (n := i) (fun _ => tv_le)
    simp only [sz_s _ i] at k
    refine ga_iload dX4_pinsOn_6 rfl ?_
    refine ga_iconst dX4_pinsOn_8 ⟨by decide, by decide⟩ ?_
    refine ga_icmp_ge (tgt := 49) dX4_pinsOn_9 rfl (fun c_9 => ?_) (fun c_9 => ?_)
    · omega
    · refine ga_aload_n dX4_pinsOn_12 rfl ?_
      refine ga_iload_n dX4_pinsOn_13 rfl ?_
      refine ga_iload dX4_pinsOn_14 rfl ?_
      refine hc_V (T_X9_netOf_9 d i σ h1 h2 (by omega) (by omega)) fX9_netOf rfl kX9_netOf lkX4_28 dX4_pinsOn_16 rfl rfl rfl rfl rfl rfl rfl rfl ?_
      refine ga_iload dX4_pinsOn_19 rfl ?_
      refine ga_icmp_ne (tgt := 43) dX4_pinsOn_21 rfl (fun c_21 => ?_) (fun c_21 => ?_)
      · rw [tvz (fun z => c_21 z.1), Int.add_zero] at k
        refine ga_iinc (z := ((i + 1 : Nat) : Int)) (lv2 := [_, _, _, _, _, _, _]) dX4_pinsOn_43 (by decide) rfl rfl (by omega) (⟨by omega, by omega⟩) rfl ?_
        refine ga_goto (tgt := 6) dX4_pinsOn_46 rfl ?_
        exact k
      · refine ga_aload_n dX4_pinsOn_24 rfl ?_
        refine ga_aload_n dX4_pinsOn_25 rfl ?_
        refine hg_getR grX4_33 dX4_pinsOn_26 rfl rfl ?_
        refine ga_iload_n dX4_pinsOn_29 rfl ?_
        refine hg_iald dX4_pinsOn_30 rfl (by omega) (by omega) ?_
        refine ga_iload dX4_pinsOn_31 rfl ?_
        refine hc_V (T_X4_groupOf (σ.1 12 d) i σ h3 h4 (by omega) (by omega)) fX4_groupOf rfl kX4_groupOf lkX4_19 dX4_pinsOn_33 rfl rfl rfl rfl rfl rfl rfl rfl ?_
        refine ga_iload_n dX4_pinsOn_36 rfl ?_
        refine ga_icmp_ne (tgt := 43) dX4_pinsOn_37 rfl (fun c_37 => ?_) (fun c_37 => ?_)
        · rw [tvz (fun z => c_37 z.2), Int.add_zero] at k
          refine ga_iinc (z := ((i + 1 : Nat) : Int)) (lv2 := [_, _, _, _, _, _, _]) dX4_pinsOn_43 (by decide) rfl rfl (by omega) (⟨by omega, by omega⟩) rfl ?_
          refine ga_goto (tgt := 6) dX4_pinsOn_46 rfl ?_
          exact k
        · rw [tv1 ⟨c_21, c_37⟩] at k
          refine ga_iinc (lv2 := [_, _, _, _, _, _, _]) dX4_pinsOn_40 (by decide) rfl rfl rfl (⟨by omega, by omega⟩) rfl ?_
          refine ga_iinc (z := ((i + 1 : Nat) : Int)) (lv2 := [_, _, _, _, _, _, _]) dX4_pinsOn_43 (by decide) rfl rfl (by omega) (⟨by omega, by omega⟩) rfl ?_
          refine ga_goto (tgt := 6) dX4_pinsOn_46 rfl ?_
          exact k
