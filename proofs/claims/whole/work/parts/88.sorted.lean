-- the reference: sortFirst, isSorted
theorem T_X11_sortFirst (σ : ga_S) (N D M E : Nat) (hw : wfR σ N D M E) : ga_Mt 3 0 0 mX11_sortFirst [Vr 63] (HP σ) (fun v h => ∃ τ, exc [84, 86] σ τ ∧ (∀ a : Int, 0 ≤ a → a < 80 → τ.1 86 a = tv (bU σ a)) ∧ (∀ a : Int, 0 ≤ a → a < 80 → bU σ a → τ.1 84 a = lsM (bU σ) (ptE σ) 80 a) ∧ v = none ∧ h = HP τ) ga_nox := by
  have e70 : ∀ τ, exc [84, 86] σ τ → τ.1 70 = σ.1 70 := fun τ h => h.1 70 (by decide)
  have hD := hw.1.2.1
  have hD2 := hw.1.2.2.1
  have hE := hw.2.1.2.1
  have hE2 := hw.2.1.2.2.1
  have US : ∀ τ, exc [84, 86] σ τ → ∀ x, bU τ x ↔ bU σ x := fun τ h x => by rw [cg_bU (core_exc h (by decide))]
  refine ga_meth [some (Vr 63), none, none] rfl rfl (by decide +kernel) (Nat.le_of_ble_eq_true rfl) rfl ?_
  refine ga_iconst dX11_sortFirst_0 ⟨by decide, by decide⟩ ?_
  refine ga_istore_n (lv2 := [_, _, _]) dX11_sortFirst_1 (by decide) rfl rfl ?_
  refine (ga_loop 80 (fun a => ∀ τ z, exc [84, 86] σ τ → (∀ x : Int, 0 ≤ x → x < a → τ.1 86 x = tv (bU σ x)) → (∀ x : Int, 0 ≤ x → x < a → bU σ x → τ.1 84 x = lsM (bU σ) (ptE σ) 80 x) → ga_W 3 0 0 0 0 mX11_sortFirst (fun v h => ∃ τ, exc [84, 86] σ τ ∧ (∀ a : Int, 0 ≤ a → a < 80 → τ.1 86 a = tv (bU σ a)) ∧ (∀ a : Int, 0 ≤ a → a < 80 → bU σ a → τ.1 84 a = lsM (bU σ) (ptE σ) 80 a) ∧ v = none ∧ h = HP τ) ga_nox 2 [some (Vr 63), some (Vi (a : Int)), z] [] (HP τ)) ?_ ?_ 0 (Nat.zero_le _) σ none exc_r (fun x x1 x2 => by omega) (fun x x1 x2 => by omega) : _)
  · intro τ z hx hu hd
    refine ga_iload_n dX11_sortFirst_2 rfl ?_
    refine ga_bipush dX11_sortFirst_3 ⟨by decide, by decide⟩ (by decide) ?_
    refine ga_icmp_ge (tgt := 95) dX11_sortFirst_5 rfl (fun c_5 => ?_) (fun c_5 => ?_)
    · refine ga_ret (v := none) ?_ rfl (by decide) (by decide) ⟨dX11_sortFirst_95, rfl⟩
      exact ⟨τ, hx, hu, hd, rfl, rfl⟩
    · omega
  · intro a ha k τ z hx hu hd
    refine ga_iload_n dX11_sortFirst_2 rfl ?_
    refine ga_bipush dX11_sortFirst_3 ⟨by decide, by decide⟩ (by decide) ?_
    refine ga_icmp_ge (tgt := 95) dX11_sortFirst_5 rfl (fun c_5 => ?_) (fun c_5 => ?_)
    · omega
    · refine ga_aload_n dX11_sortFirst_8 rfl ?_
      refine hg_getR grX11_78 dX11_sortFirst_9 rfl rfl ?_
      refine ga_iload_n dX11_sortFirst_12 rfl ?_
      refine ga_aload_n dX11_sortFirst_13 rfl ?_
      refine ga_iload_n dX11_sortFirst_14 rfl ?_
      refine hc_V (T_X11_isUsedAt a τ D E (by omega) (by omega) (by rw [e70 _ hx]; exact hD) hD2 (by rw [e70 _ hx]; exact hE) hE2) fX11_isUsedAt rfl kX11_isUsedAt lkX11_149 dX11_sortFirst_15 rfl rfl rfl rfl rfl rfl rfl rfl ?_
      rw [tv_congr (US _ hx a)]
      refine hg_zast dX11_sortFirst_18 rfl (by omega) (by omega) (tv01) ?_
      refine ga_aload_n dX11_sortFirst_19 rfl ?_
      refine hg_getR grX11_72 dX11_sortFirst_20 rfl rfl ?_
      refine ga_iload_n dX11_sortFirst_23 rfl ?_
      refine ga_iload_n dX11_sortFirst_24 rfl ?_
      refine hg_iast dX11_sortFirst_25 rfl (by omega) (by omega) ?_
      refine ga_iconst dX11_sortFirst_26 ⟨by decide, by decide⟩ ?_
      refine ga_istore_n (lv2 := [_, _, _]) dX11_sortFirst_27 (by decide) rfl rfl ?_
      have x1 : exc [84, 86] σ (stI (stI τ 86 (ga_up (τ.1 86) a (tv (bU σ a)))) 84 (ga_up ((stI τ 86 (ga_up (τ.1 86) a (tv (bU σ a)))).1 84) a a)) := exc_st (exc_st hx (by decide)) (by decide)
      refine (ga_loop a (fun b => ∀ τ, exc [84, 86] σ τ → (∀ x : Int, 0 ≤ x → x < a + 1 → τ.1 86 x = tv (bU σ x)) → (∀ x : Int, 0 ≤ x → x < a → bU σ x → τ.1 84 x = lsM (bU σ) (ptE σ) 80 x) → (bU σ a → τ.1 84 a = upF (bU σ) (ptE σ) 80 a b) → ga_W 3 0 0 0 0 mX11_sortFirst (fun v h => ∃ τ, exc [84, 86] σ τ ∧ (∀ a : Int, 0 ≤ a → a < 80 → τ.1 86 a = tv (bU σ a)) ∧ (∀ a : Int, 0 ≤ a → a < 80 → bU σ a → τ.1 84 a = lsM (bU σ) (ptE σ) 80 a) ∧ v = none ∧ h = HP τ) ga_nox 28 [some (Vr 63), some (Vi (a : Int)), some (Vi (b : Int))] [] (HP τ)) ?_ ?_ 0 (Nat.zero_le _) _ x1 (fun x q1 q2 => ?_) (fun x q1 q2 q3 => ?_) (fun q => ?_) : _)
      · intro τ hx hu hd hv
        refine ga_iload_n dX11_sortFirst_28 rfl ?_
        refine ga_iload_n dX11_sortFirst_29 rfl ?_
        refine ga_icmp_ge (tgt := 89) dX11_sortFirst_30 rfl (fun c_30 => ?_) (fun c_30 => ?_)
        · refine ga_iinc (z := ((a + 1 : Nat) : Int)) (lv2 := [_, _, _]) dX11_sortFirst_89 (by decide) rfl rfl (by omega) (⟨by omega, by omega⟩) rfl ?_
          refine ga_goto (tgt := 2) dX11_sortFirst_92 rfl ?_
          refine k τ _ hx (fun x q1 q2 => hu x q1 (by omega)) (fun x q1 q2 q3 => ?_)
          by_cases q : x = a
          · rw [q] at q3 ⊢
            rw [hv q3]
            exact upF_end (ptE_q σ) (by omega) (by omega) q3
          · exact hd x q1 (by omega) q3
        · omega
      · intro b hb k2 τ hx hu hd hv
        have e64 : τ.1 64 = σ.1 64 := hx.1 64 (by decide)
        have T82 : ∀ w : Int, (bU σ a → w = upF (bU σ) (ptE σ) 80 a ((b + 1 : Nat) : Int)) → ga_W 3 0 0 0 0 mX11_sortFirst (fun v h => ∃ τ, exc [84, 86] σ τ ∧ (∀ a : Int, 0 ≤ a → a < 80 → τ.1 86 a = tv (bU σ a)) ∧ (∀ a : Int, 0 ≤ a → a < 80 → bU σ a → τ.1 84 a = lsM (bU σ) (ptE σ) 80 a) ∧ v = none ∧ h = HP τ) ga_nox 82 [some (Vr 63), some (Vi (a : Int)), some (Vi (b : Int))] [Vi w, Vi (a : Int), Vr 84] (HP τ) := by
          intro w hw
          refine hg_iast dX11_sortFirst_82 rfl (by omega) (by omega) ?_
          refine ga_iinc (z := ((b + 1 : Nat) : Int)) (lv2 := [_, _, _]) dX11_sortFirst_83 (by decide) rfl rfl (by omega) (⟨by omega, by omega⟩) rfl ?_
          refine ga_goto (tgt := 28) dX11_sortFirst_86 rfl ?_
          refine k2 _ (exc_st hx (by decide)) hu (fun x q1 q2 q3 => ?_) (fun q => ?_)
          · rw [stI_at, ga_up_ne _ _ (by omega)]; exact hd x q1 q2 q3
          · rw [stI_at, ga_up_at]; exact hw q
        refine ga_iload_n dX11_sortFirst_28 rfl ?_
        refine ga_iload_n dX11_sortFirst_29 rfl ?_
        refine ga_icmp_ge (tgt := 89) dX11_sortFirst_30 rfl (fun c_30 => ?_) (fun c_30 => ?_)
        · omega
        · refine ga_aload_n dX11_sortFirst_33 rfl ?_
          refine hg_getR grX11_72 dX11_sortFirst_34 rfl rfl ?_
          refine ga_iload_n dX11_sortFirst_37 rfl ?_
          refine hg_iald dX11_sortFirst_38 rfl (by omega) (by omega) ?_
          refine ga_iload_n dX11_sortFirst_39 rfl ?_
          refine ga_icmp_ne (tgt := 89) dX11_sortFirst_40 rfl (fun c_40 => ?_) (fun c_40 => ?_)
          · -- found before
            refine ga_iinc (z := ((a + 1 : Nat) : Int)) (lv2 := [_, _, _]) dX11_sortFirst_89 (by decide) rfl rfl (by omega) (⟨by omega, by omega⟩) rfl ?_
            refine ga_goto (tgt := 2) dX11_sortFirst_92 rfl ?_
            refine k τ _ hx (fun x q1 q2 => hu x q1 (by omega)) (fun x q1 q2 q3 => ?_)
            by_cases q : x = a
            · rw [q] at q3 ⊢
              have h9 := hv q3
              rw [h9] at c_40
              rw [h9, lsM_y q3]
              unfold upF at c_40 ⊢
              by_cases q4 : lst (bU σ) (ptE σ) 80 a < (b : Int)
              · rw [if_pos q4]
              · rw [if_neg q4] at c_40
                exact absurd rfl c_40
            · exact hd x q1 (by omega) q3
          · have NO : ¬ (bU σ b ∧ ptE σ b a) → ga_W 3 0 0 0 0 mX11_sortFirst (fun v h => ∃ τ, exc [84, 86] σ τ ∧ (∀ a : Int, 0 ≤ a → a < 80 → τ.1 86 a = tv (bU σ a)) ∧ (∀ a : Int, 0 ≤ a → a < 80 → bU σ a → τ.1 84 a = lsM (bU σ) (ptE σ) 80 a) ∧ v = none ∧ h = HP τ) ga_nox 81 [some (Vr 63), some (Vi (a : Int)), some (Vi (b : Int))] [Vi (a : Int), Vr 84] (HP τ) := by
              intro hn
              refine ga_iload_n dX11_sortFirst_81 rfl ?_
              refine T82 _ (fun q => ?_)
              have e9 := upF_no (T := 80) (b := b) (ptE_q σ) (by omega) (by omega) q (fun w => hn ⟨w.1, w.2.1⟩) (by omega) (by omega)
              rw [← hv q, c_40] at e9
              exact e9.symm
            have hub := hu b (by omega) (by omega)
            refine ga_aload_n dX11_sortFirst_43 rfl ?_
            refine hg_getR grX11_72 dX11_sortFirst_44 rfl rfl ?_
            refine ga_iload_n dX11_sortFirst_47 rfl ?_
            refine ga_aload_n dX11_sortFirst_48 rfl ?_
            refine hg_getR grX11_78 dX11_sortFirst_49 rfl rfl ?_
            refine ga_iload_n dX11_sortFirst_52 rfl ?_
            refine hg_zald dX11_sortFirst_53 rfl (by omega) (by omega) ?_
            refine ga_if_eq (tgt := 81) dX11_sortFirst_54 rfl (fun c_54 => ?_) (fun c_54 => ?_)
            · rw [hub, tv_eq0] at c_54
              exact NO (fun q => c_54 q.1)
            · rw [hub, tv_ne0] at c_54
              refine ga_aload_n dX11_sortFirst_57 rfl ?_
              refine hg_getR grX11_7 dX11_sortFirst_58 rfl rfl ?_
              refine ga_iload_n dX11_sortFirst_61 rfl ?_
              refine hg_iald dX11_sortFirst_62 rfl (by omega) (by omega) ?_
              refine ga_aload_n dX11_sortFirst_63 rfl ?_
              refine hg_getR grX11_7 dX11_sortFirst_64 rfl rfl ?_
              refine ga_iload_n dX11_sortFirst_67 rfl ?_
              refine hg_iald dX11_sortFirst_68 rfl (by omega) (by omega) ?_
              refine ga_icmp_ne (tgt := 81) dX11_sortFirst_69 rfl (fun c_69 => ?_) (fun c_69 => ?_)
              · rw [e64] at c_69
                exact NO (fun q => c_69 q.2)
              · rw [e64] at c_69
                refine ga_aload_n dX11_sortFirst_72 rfl ?_
                refine hg_getR grX11_72 dX11_sortFirst_73 rfl rfl ?_
                refine ga_iload_n dX11_sortFirst_76 rfl ?_
                refine hg_iald dX11_sortFirst_77 rfl (by omega) (by omega) ?_
                refine ga_goto (tgt := 82) dX11_sortFirst_78 rfl ?_
                refine T82 _ (fun q => ?_)
                rw [hd b (by omega) (by omega) c_54]
                exact (upF_yes (ptE_q σ) (by omega) (by omega) q c_54 c_69 (by rw [← hv q]; exact c_40) (by omega) (by omega)).symm
      · show ga_up (τ.1 86) a (tv (bU σ a)) x = _
        by_cases q : x = a
        · rw [q, ga_up_at]
        · rw [ga_up_ne _ _ q]; exact hu x q1 (by omega)
      · show ga_up (τ.1 84) a a x = _
        rw [ga_up_ne _ _ (by omega)]; exact hd x q1 q2 q3
      · show ga_up (τ.1 84) a a a = _
        rw [ga_up_at]; exact (upF_0 (ptE_q σ) (by omega) (by omega) q).symm
/-- how many more of the first side than of the second have a number -/
noncomputable def cnS (σ : ga_S) (E : Int → Int → Prop) (r : Int) (n : Nat) : Int := sz (fun x => tif (bU σ x ∧ lsM (bU σ) E 80 x = r) (if x < 40 then 1 else -1) 0) n
theorem cnS_s (σ : ga_S) (E : Int → Int → Prop) (r : Int) (n : Nat) : cnS σ E r (n + 1) = cnS σ E r n + tif (bU σ n ∧ lsM (bU σ) E 80 n = r) (if (n : Int) < 40 then 1 else -1) 0 := rfl
theorem cnS_b (σ : ga_S) (E : Int → Int → Prop) (r : Int) : ∀ n : Nat, -(n : Int) ≤ cnS σ E r n ∧ cnS σ E r n ≤ n
  | 0 => ⟨Int.le_refl _, Int.le_refl _⟩
  | n + 1 => by
    have ih := cnS_b σ E r n
    rw [cnS_s]
    rcases Classical.em (bU σ n ∧ lsM (bU σ) E 80 n = r) with q | q
    · rw [tif1 q]; split <;> omega
    · rw [tif0 q]; omega
theorem cnS_80 {σ : ga_S} {E : Int → Int → Prop} {r : Int} : cnS σ E r 80 = sz (fun n => tv (bU σ n ∧ lsM (bU σ) E 80 n = r)) 40 - sz (fun n => tv (bU σ (40 + n) ∧ lsM (bU σ) E 80 (40 + n) = r)) 40 := by
  have e1 : cnS σ E r 80 = sz (fun x => tif (bU σ x ∧ lsM (bU σ) E 80 x = r) (if x < 40 then 1 else -1) 0) (40 + 40) := rfl
  rw [e1, sz_sh]
  have e2 : sz (fun x => tif (bU σ x ∧ lsM (bU σ) E 80 x = r) (if x < 40 then 1 else -1) 0) 40 = sz (fun n => tv (bU σ n ∧ lsM (bU σ) E 80 n = r)) 40 := by
    apply sz_congr
    intro i hi
    show tif _ _ _ = tv _
    rcases Classical.em (bU σ i ∧ lsM (bU σ) E 80 i = r) with q | q
    · rw [tif1 q, tv1 q, if_pos (by omega)]
    · rw [tif0 q, tvz q]
  have e3 : ∀ n : Nat, n ≤ 40 → sz (fun i => tif (bU σ (((40 : Nat) : Int) + i) ∧ lsM (bU σ) E 80 (((40 : Nat) : Int) + i) = r) (if ((40 : Nat) : Int) + i < 40 then 1 else -1) 0) n = - sz (fun n => tv (bU σ (40 + n) ∧ lsM (bU σ) E 80 (40 + n) = r)) n := by
    intro n
    induction n with
    | zero => intro _; rfl
    | succ n ih =>
      intro hn
      rw [sz_s, sz_s, ih (by omega)]
      show _ + tif (bU σ (40 + (n : Int)) ∧ lsM (bU σ) E 80 (40 + (n : Int)) = r) (if (40 : Int) + n < 40 then 1 else -1) 0 = _
      rcases Classical.em (bU σ (40 + (n : Int)) ∧ lsM (bU σ) E 80 (40 + (n : Int)) = r) with q | q
      · rw [tif1 q, tv1 q, if_neg (by omega)]; omega
      · rw [tif0 q, tvz q]; omega
  rw [e2, e3 40 (Nat.le_refl _)]
  omega
theorem SE_q (β : ga_S) (ch : Int → Int) (p : Int) : eqR (SE β ch p) := ⟨fun _ => SE_r, fun _ _ h => SE_y h, fun _ _ _ h g => SE_t h g⟩
theorem EV_cn {σ : ga_S} {ch : Int → Int} {p : Int} : EV σ ch p ↔ ∀ r : Nat, r < 80 → cnS σ (SE σ ch p) r 80 = 0 := by
  have e := SE_q σ ch p
  have S1 : ∀ x : Int, 0 ≤ x → x < 80 → bU σ x → sz (fun n => tv (bU σ n ∧ lsM (bU σ) (SE σ ch p) 80 n = lsM (bU σ) (SE σ ch p) 80 x)) 40 = sz (fun n => tv (bU σ n ∧ SE σ ch p x n)) 40 := by
    intro x x1 x2 ux
    apply sz_congr
    intro n hn
    apply tv_congr
    constructor
    · rintro ⟨un, h⟩
      rw [lsM_y un, lsM_y ux] at h
      exact ⟨un, SE_y ((lst_eq (T := 80) e.1 e.2.1 e.2.2 (by omega) (by omega) x1 x2 un ux).mp h)⟩
    · rintro ⟨un, h⟩
      refine ⟨un, ?_⟩
      rw [lsM_y un, lsM_y ux]
      exact (lst_eq (T := 80) e.1 e.2.1 e.2.2 (by omega) (by omega) x1 x2 un ux).mpr (SE_y h)
  have S2 : ∀ x : Int, 0 ≤ x → x < 80 → bU σ x → sz (fun n => tv (bU σ (40 + n) ∧ lsM (bU σ) (SE σ ch p) 80 (40 + n) = lsM (bU σ) (SE σ ch p) 80 x)) 40 = sz (fun n => tv (bU σ (40 + n) ∧ SE σ ch p x (40 + n))) 40 := by
    intro x x1 x2 ux
    apply sz_congr
    intro n hn
    apply tv_congr
    constructor
    · rintro ⟨un, h⟩
      rw [lsM_y un, lsM_y ux] at h
      exact ⟨un, SE_y ((lst_eq (T := 80) e.1 e.2.1 e.2.2 (by omega) (by omega) x1 x2 un ux).mp h)⟩
    · rintro ⟨un, h⟩
      refine ⟨un, ?_⟩
      rw [lsM_y un, lsM_y ux]
      exact (lst_eq (T := 80) e.1 e.2.1 e.2.2 (by omega) (by omega) x1 x2 un ux).mpr (SE_y h)
  constructor
  · intro h r hr
    rw [cnS_80]
    rcases Classical.em (∃ x : Int, 0 ≤ x ∧ x < 80 ∧ bU σ x ∧ lsM (bU σ) (SE σ ch p) 80 x = r) with ⟨x, x1, x2, ux, q⟩ | q
    · have := h x x1 x2 ux
      rw [← q, S1 x x1 x2 ux, S2 x x1 x2 ux]
      omega
    · rw [sz_z (fun i hi => tvz (fun w => q ⟨i, by omega, by omega, w.1, w.2⟩)), sz_z (fun i hi => tvz (fun w => q ⟨40 + i, by omega, by omega, w.1, w.2⟩))]
      rfl
  · intro h x x1 x2 ux
    have o := lst_at e x1 (T := 80) x2 ux
    have := h (lst (bU σ) (SE σ ch p) 80 x).toNat (by omega)
    rw [Int.toNat_of_nonneg o.1, cnS_80, ← lsM_y (E := SE σ ch p) (T := 80) ux, S1 x x1 x2 ux, S2 x x1 x2 ux] at this
    omega
