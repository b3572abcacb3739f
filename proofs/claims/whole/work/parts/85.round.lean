-- the reference: round
noncomputable def dnF (L : Int → Prop) (E : Int → Int → Prop) (T : Nat) (a b : Int) : Int := tif (∃ u : Int, 0 ≤ u ∧ b ≤ u ∧ u < a ∧ L u ∧ E a u) (lst L E T a) a
section DnF
variable {L : Int → Prop} {E : Int → Int → Prop} {T : Nat} {a b : Int}
theorem dnF_0 : dnF L E T a a = a := tif0 (fun ⟨u, _, h1, h2, _⟩ => by omega)
theorem dnF_end (e : eqR E) (a1 : 0 ≤ a) (a2 : a < T) (la : L a) : dnF L E T a 0 = lsM L E T a := by
  rw [lsM_y la]
  unfold dnF
  rcases Classical.em (∃ u : Int, 0 ≤ u ∧ 0 ≤ u ∧ u < a ∧ L u ∧ E a u) with q | q
  · rw [tif1 q]
  · rw [tif0 q]
    exact ((lst_fst e a1 a2 la).mpr (fun u u1 u2 lu w => q ⟨u, u1, u1, u2, lu, w⟩)).symm
theorem dnF_no (hn : ¬ (L b ∧ E a b)) : dnF L E T a b = dnF L E T a (b + 1) := by
  unfold dnF
  congr 1
  apply propext
  constructor
  · rintro ⟨u, u1, u2, u3, u4, u5⟩
    by_cases q : u = b
    · rw [q] at u4 u5; exact absurd ⟨u4, u5⟩ hn
    · exact ⟨u, u1, by omega, u3, u4, u5⟩
  · rintro ⟨u, u1, u2, u3, u4, u5⟩
    exact ⟨u, u1, by omega, u3, u4, u5⟩
theorem dnF_yes (e : eqR E) (a1 : 0 ≤ a) (a2 : a < T) (la : L a) (hL : L b) (hE : E a b) (b1 : 0 ≤ b) (b2 : b < a) : dnF L E T a b = lsM L E T b := by
  rw [lsM_y hL]
  unfold dnF
  rw [tif1 ⟨b, b1, Int.le_refl _, b2, hL, hE⟩]
  exact (lst_eq e.1 e.2.1 e.2.2 a1 a2 b1 (by omega) la hL).mpr hE
end DnF
theorem relD_q (β : ga_S) (C RN : Int → Int) : eqR (relD β C RN) := ⟨relD_r β C RN, relD_s β C RN, relD_t β C RN⟩
theorem relN_q (β : ga_S) (C RD : Int → Int) : eqR (relN β C RD) := ⟨relN_r β C RD, relN_s β C RD, relN_t β C RD⟩
theorem W_round_D {Q : ga_Po} (σ : ga_S) (N D M E : Nat) (hw : wfR σ N D M E) (hn : okN σ (σ.1 74)) (y3 y4 : Option ga_V)
    (KK : ∀ (τ : ga_S) (z3 z4 : Option ga_V), exc [75] σ τ → (∀ x : Int, 0 ≤ x → x < 60 → τ.1 75 x = lsM (bL σ) (relD σ (σ.1 73) (σ.1 74)) 60 x) → ga_W 5 0 0 0 0 mX11_round Q ga_nox 109 [some (Vr 63), some (Vi (sz (fun x => tv (bL σ x ∧ lsM (bL σ) (relD σ (σ.1 73) (σ.1 74)) 60 x = x)) 60)), some (Vi 60), z3, z4] [] (HP τ)) : ga_W 5 0 0 0 0 mX11_round Q ga_nox 4 [some (Vr 63), some (Vi 0), some (Vi ((0 : Nat) : Int)), y3, y4] [] (HP σ) := by
  have LV : ∀ τ, exc [75] σ τ → ∀ x, bL τ x ↔ bL σ x := fun τ h x => by rw [cg_bL (core_exc h (by decide))]
  have hb := fun m : Nat => sz_b (f := fun x => tv (bL σ x ∧ lsM (bL σ) (relD σ (σ.1 73) (σ.1 74)) 60 x = x)) (fun _ => tv_le) (n := m)
  refine (ga_loop 60 (fun a => ∀ τ z3 z4, exc [75] σ τ → (∀ x : Int, 0 ≤ x → x < a → τ.1 75 x = lsM (bL σ) (relD σ (σ.1 73) (σ.1 74)) 60 x) → ga_W 5 0 0 0 0 mX11_round Q ga_nox 4 [some (Vr 63), some (Vi (sz (fun x => tv (bL σ x ∧ lsM (bL σ) (relD σ (σ.1 73) (σ.1 74)) 60 x = x)) a)), some (Vi (a : Int)), z3, z4] [] (HP τ)) ?_ ?_ 0 (Nat.zero_le _) σ y3 y4 exc_r (fun x x1 x2 => by omega) : _)
  · intro τ z3 z4 hx hd
    refine ga_iload_n dX11_round_4 rfl ?_
    refine ga_bipush dX11_round_5 ⟨by decide, by decide⟩ (by decide) ?_
    refine ga_icmp_ge (tgt := 109) dX11_round_7 rfl (fun c_7 => ?_) (fun c_7 => ?_)
    · exact KK τ _ _ hx hd
    · omega
  · intro a ha k τ z3 z4 hx hd
    have h5 := hb a
    simp only [sz_s _ a] at k
    have R77 : ∀ (τ : ga_S) (z3 z4 : Option ga_V), exc [75] σ τ → (∀ x : Int, 0 ≤ x → x < a + 1 → τ.1 75 x = lsM (bL σ) (relD σ (σ.1 73) (σ.1 74)) 60 x) → ga_W 5 0 0 0 0 mX11_round Q ga_nox 77 [some (Vr 63), some (Vi (sz (fun x => tv (bL σ x ∧ lsM (bL σ) (relD σ (σ.1 73) (σ.1 74)) 60 x = x)) a)), some (Vi (a : Int)), z3, z4] [] (HP τ) := by
      intro τ z3 z4 hx hd
      have T101 : ∀ v : Int, v = tv (bL σ a ∧ lsM (bL σ) (relD σ (σ.1 73) (σ.1 74)) 60 a = a) → ga_W 5 0 0 0 0 mX11_round Q ga_nox 101 [some (Vr 63), some (Vi (sz (fun x => tv (bL σ x ∧ lsM (bL σ) (relD σ (σ.1 73) (σ.1 74)) 60 x = x)) a)), some (Vi (a : Int)), z3, z4] [Vi v, Vi (sz (fun x => tv (bL σ x ∧ lsM (bL σ) (relD σ (σ.1 73) (σ.1 74)) 60 x = x)) a)] (HP τ) := by
        intro v hv
        have hv2 := tv_le (p := bL σ a ∧ lsM (bL σ) (relD σ (σ.1 73) (σ.1 74)) 60 a = a)
        rw [← hv] at k hv2
        refine ga_iadd dX11_round_101 rfl (⟨by omega, by omega⟩) ?_
        refine ga_istore_n (lv2 := [_, _, _, _, _]) dX11_round_102 (by decide) rfl rfl ?_
        refine ga_iinc (z := ((a + 1 : Nat) : Int)) (lv2 := [_, _, _, _, _]) dX11_round_103 (by decide) rfl rfl (by omega) (⟨by omega, by omega⟩) rfl ?_
        refine ga_goto (tgt := 4) dX11_round_106 rfl ?_
        exact k τ _ _ hx (fun x x1 x2 => hd x x1 (by omega))
      refine ga_iload_n dX11_round_77 rfl ?_
      refine ga_aload_n dX11_round_78 rfl ?_
      refine ga_iload_n dX11_round_79 rfl ?_
      refine hc_V (T_X11_isLive a τ (by omega) (by omega)) fX11_isLive rfl kX11_isLive lkX11_143 dX11_round_80 rfl rfl rfl rfl rfl rfl rfl rfl ?_
      refine ga_if_eq (tgt := 100) dX11_round_83 rfl (fun c_83 => ?_) (fun c_83 => ?_)
      · rw [tv_eq0, LV τ hx] at c_83
        refine ga_iconst dX11_round_100 ⟨by decide, by decide⟩ ?_
        exact T101 0 (tvz (fun z => c_83 z.1)).symm
      · rw [tv_ne0, LV τ hx] at c_83
        have e := hd a (by omega) (by omega)
        refine ga_aload_n dX11_round_86 rfl ?_
        refine hg_getR grX11_45 dX11_round_87 rfl rfl ?_
        refine ga_iload_n dX11_round_90 rfl ?_
        refine hg_iald dX11_round_91 rfl (by omega) (by omega) ?_
        refine ga_iload_n dX11_round_92 rfl ?_
        refine ga_icmp_ne (tgt := 100) dX11_round_93 rfl (fun c_93 => ?_) (fun c_93 => ?_)
        · rw [e] at c_93
          refine ga_iconst dX11_round_100 ⟨by decide, by decide⟩ ?_
          exact T101 0 (tvz (fun z => c_93 z.2)).symm
        · rw [e] at c_93
          refine ga_iconst dX11_round_96 ⟨by decide, by decide⟩ ?_
          refine ga_goto (tgt := 101) dX11_round_97 rfl ?_
          exact T101 1 (tv1 ⟨c_83, c_93⟩).symm
    refine ga_iload_n dX11_round_4 rfl ?_
    refine ga_bipush dX11_round_5 ⟨by decide, by decide⟩ (by decide) ?_
    refine ga_icmp_ge (tgt := 109) dX11_round_7 rfl (fun c_7 => ?_) (fun c_7 => ?_)
    · omega
    · refine ga_aload_n dX11_round_10 rfl ?_
      refine hg_getR grX11_45 dX11_round_11 rfl rfl ?_
      refine ga_iload_n dX11_round_14 rfl ?_
      refine ga_iload_n dX11_round_15 rfl ?_
      refine hg_iast dX11_round_16 rfl (by omega) (by omega) ?_
      refine ga_iload_n dX11_round_17 rfl ?_
      refine ga_iconst dX11_round_18 ⟨by decide, by decide⟩ ?_
      refine ga_isub (z := ((a : Int) - 1 - ((0 : Nat) : Int))) dX11_round_19 (by omega) (⟨by omega, by omega⟩) ?_
      refine ga_istore_n (lv2 := [_, _, _, _, _]) dX11_round_20 (by decide) rfl rfl ?_
      have x1 : exc [75] σ (stI τ 75 (ga_up (τ.1 75) a a)) := exc_st hx (by decide)
      have d1 : ∀ x : Int, 0 ≤ x → x < a → (stI τ 75 (ga_up (τ.1 75) a a)).1 75 x = lsM (bL σ) (relD σ (σ.1 73) (σ.1 74)) 60 x := fun x q1 q2 => by
        rw [stI_at, ga_up_ne _ _ (by omega)]; exact hd x q1 q2
      rcases Classical.em (bL σ a) with la | la
      · refine (ga_loop a (fun i => ∀ τ, exc [75] σ τ → (∀ x : Int, 0 ≤ x → x < a → τ.1 75 x = lsM (bL σ) (relD σ (σ.1 73) (σ.1 74)) 60 x) → τ.1 75 a = dnF (bL σ) (relD σ (σ.1 73) (σ.1 74)) 60 a ((a : Int) - i) → ga_W 5 0 0 0 0 mX11_round Q ga_nox 21 [some (Vr 63), some (Vi (sz (fun x => tv (bL σ x ∧ lsM (bL σ) (relD σ (σ.1 73) (σ.1 74)) 60 x = x)) a)), some (Vi (a : Int)), some (Vi ((a : Int) - 1 - (i : Int))), z4] [] (HP τ)) ?_ ?_ 0 (Nat.zero_le _) _ x1 d1 (by rw [stI_at, ga_up_at, show (a : Int) - ((0 : Nat) : Int) = a by omega]; exact dnF_0.symm) : _)
        · intro τ hx hd hu
          rw [show (a : Int) - (a : Int) = 0 by omega, dnF_end (relD_q σ _ _) (by omega) (by omega) la] at hu
          refine ga_iload_n dX11_round_21 rfl ?_
          refine ga_if_lt (tgt := 77) dX11_round_22 rfl (fun c_22 => ?_) (fun c_22 => ?_)
          · refine R77 τ _ _ hx (fun x q1 q2 => ?_)
            by_cases q : x = a
            · rw [q]; exact hu
            · exact hd x q1 (by omega)
          · omega
        · intro i hi k2 τ hx hd hu
          have hb : (a : Int) - i = (a : Int) - 1 - i + 1 := by omega
          have hb2 : (a : Int) - ((i + 1 : Nat) : Int) = (a : Int) - 1 - i := by omega
          rw [hb] at hu
          rw [hb2] at k2
          have T70 : ∀ w : Int, w = dnF (bL σ) (relD σ (σ.1 73) (σ.1 74)) 60 a ((a : Int) - 1 - i) → ga_W 5 0 0 0 0 mX11_round Q ga_nox 70 [some (Vr 63), some (Vi (sz (fun x => tv (bL σ x ∧ lsM (bL σ) (relD σ (σ.1 73) (σ.1 74)) 60 x = x)) a)), some (Vi (a : Int)), some (Vi ((a : Int) - 1 - (i : Int))), z4] [Vi w, Vi (a : Int), Vr 75] (HP τ) := by
            intro w hw
            refine hg_iast dX11_round_70 rfl (by omega) (by omega) ?_
            refine ga_iinc (z := ((a : Int) - 1 - ((i + 1 : Nat) : Int))) (lv2 := [_, _, _, _, _]) dX11_round_71 (by decide) rfl rfl (by omega) (⟨by omega, by omega⟩) rfl ?_
            refine ga_goto (tgt := 21) dX11_round_74 rfl ?_
            refine k2 _ (exc_st hx (by decide)) (fun x q1 q2 => ?_) ?_
            · rw [stI_at, ga_up_ne _ _ (by omega)]; exact hd x q1 q2
            · rw [stI_at, ga_up_at]; exact hw
          have NO : ¬ (bL σ ((a : Int) - 1 - i) ∧ (relD σ (σ.1 73) (σ.1 74)) a ((a : Int) - 1 - i)) → ga_W 5 0 0 0 0 mX11_round Q ga_nox 64 [some (Vr 63), some (Vi (sz (fun x => tv (bL σ x ∧ lsM (bL σ) (relD σ (σ.1 73) (σ.1 74)) 60 x = x)) a)), some (Vi (a : Int)), some (Vi ((a : Int) - 1 - (i : Int))), z4] [Vi (a : Int), Vr 75] (HP τ) := by
            intro hn
            refine ga_aload_n dX11_round_64 rfl ?_
            refine hg_getR grX11_45 dX11_round_65 rfl rfl ?_
            refine ga_iload_n dX11_round_68 rfl ?_
            refine hg_iald dX11_round_69 rfl (by omega) (by omega) ?_
            refine T70 _ ?_
            rw [hu]
            exact (dnF_no hn).symm
          have hc := core_exc hx (by decide)
          have e73 : τ.1 73 = σ.1 73 := hx.1 73 (by decide)
          have e74 : τ.1 74 = σ.1 74 := hx.1 74 (by decide)
          refine ga_iload_n dX11_round_21 rfl ?_
          refine ga_if_lt (tgt := 77) dX11_round_22 rfl (fun c_22 => ?_) (fun c_22 => ?_)
          · omega
          · refine ga_aload_n dX11_round_25 rfl ?_
            refine ga_iload_n dX11_round_26 rfl ?_
            refine hc_V (T_X11_isLive a τ (by omega) (by omega)) fX11_isLive rfl kX11_isLive lkX11_143 dX11_round_27 rfl rfl rfl rfl rfl rfl rfl rfl ?_
            refine ga_if_eq (tgt := 77) dX11_round_30 rfl (fun c_30 => ?_) (fun c_30 => ?_)
            · rw [tv_eq0, LV τ hx] at c_30
              exact absurd la c_30
            · refine ga_aload_n dX11_round_33 rfl ?_
              refine hg_getR grX11_45 dX11_round_34 rfl rfl ?_
              refine ga_iload_n dX11_round_37 rfl ?_
              refine ga_aload_n dX11_round_38 rfl ?_
              refine ga_iload_n dX11_round_39 rfl ?_
              refine hc_V (T_X11_isLive ((a : Int) - 1 - (i : Int)) τ (by omega) (by omega)) fX11_isLive rfl kX11_isLive lkX11_143 dX11_round_40 rfl rfl rfl rfl rfl rfl rfl rfl ?_
              refine ga_if_eq (tgt := 64) dX11_round_43 rfl (fun c_43 => ?_) (fun c_43 => ?_)
              · rw [tv_eq0, LV τ hx] at c_43
                exact NO (fun q => c_43 q.1)
              · rw [tv_ne0, LV τ hx] at c_43
                refine ga_aload_n dX11_round_46 rfl ?_
                refine ga_iload_n dX11_round_47 rfl ?_
                refine ga_iload_n dX11_round_48 rfl ?_
                refine hc_V (T_X11_isLikeDevice a ((a : Int) - 1 - (i : Int)) τ N D M E (by rw [cg_wfR hc]; exact hw) (by omega) (by omega) (by omega) (by omega) (by rw [cg_bL hc]; exact la) (by rw [cg_bL hc]; exact c_43) (by rw [cg_okN hc, e74]; exact hn)) fX11_isLikeDevice rfl kX11_isLikeDevice lkX11_146 dX11_round_49 rfl rfl rfl rfl rfl rfl rfl rfl ?_
                refine ga_if_eq (tgt := 64) dX11_round_52 rfl (fun c_52 => ?_) (fun c_52 => ?_)
                · rw [tv_eq0, cg_relD hc, e73, e74] at c_52
                  exact NO (fun q => c_52 q.2)
                · rw [tv_ne0, cg_relD hc, e73, e74] at c_52
                  refine ga_aload_n dX11_round_55 rfl ?_
                  refine hg_getR grX11_45 dX11_round_56 rfl rfl ?_
                  refine ga_iload_n dX11_round_59 rfl ?_
                  refine hg_iald dX11_round_60 rfl (by omega) (by omega) ?_
                  refine ga_goto (tgt := 70) dX11_round_61 rfl ?_
                  refine T70 _ ?_
                  rw [hd _ (by omega) (by omega)]
                  exact (dnF_yes (relD_q σ _ _) (by omega) (by omega) la c_43 c_52 (by omega) (by omega)).symm
      · have d2 : ∀ x : Int, 0 ≤ x → x < a + 1 → (stI τ 75 (ga_up (τ.1 75) a a)).1 75 x = lsM (bL σ) (relD σ (σ.1 73) (σ.1 74)) 60 x := fun x q1 q2 => by
          by_cases q : x = a
          · rw [q, stI_at, ga_up_at, lsM_n la]
          · exact d1 x q1 (by omega)
        refine ga_iload_n dX11_round_21 rfl ?_
        refine ga_if_lt (tgt := 77) dX11_round_22 rfl (fun c_22 => ?_) (fun c_22 => ?_)
        · exact R77 _ _ _ x1 d2
        · refine ga_aload_n dX11_round_25 rfl ?_
          refine ga_iload_n dX11_round_26 rfl ?_
          refine hc_V (T_X11_isLive a _ (by omega) (by omega)) fX11_isLive rfl kX11_isLive lkX11_143 dX11_round_27 rfl rfl rfl rfl rfl rfl rfl rfl ?_
          refine ga_if_eq (tgt := 77) dX11_round_30 rfl (fun c_30 => ?_) (fun c_30 => ?_)
          · exact R77 _ _ _ x1 d2
          · rw [tv_ne0, LV _ x1] at c_30
            exact absurd c_30 la
theorem W_round_N {Q : ga_Po} (σ σ0 : ga_S) (N D M E : Nat) (hw : wfR σ N D M E) (hn : okD σ (σ.1 73)) (y3 y4 : Option ga_V) (h0 : exc [75] σ σ0) (hC : 0 ≤ sz (fun x => tv (bL σ x ∧ lsM (bL σ) (relD σ (σ.1 73) (σ.1 74)) 60 x = x)) 60 ∧ sz (fun x => tv (bL σ x ∧ lsM (bL σ) (relD σ (σ.1 73) (σ.1 74)) 60 x = x)) 60 ≤ 60)
    (KK : ∀ (τ : ga_S) (z3 z4 : Option ga_V), exc [75, 76] σ τ → τ.1 75 = σ0.1 75 → (∀ x : Int, 0 ≤ x → x < 80 → τ.1 76 x = lsM (bU σ) (relN σ (σ.1 74) (σ.1 73)) 80 x) → ga_W 5 0 0 0 0 mX11_round Q ga_nox 219 [some (Vr 63), some (Vi (sz (fun x => tv (bL σ x ∧ lsM (bL σ) (relD σ (σ.1 73) (σ.1 74)) 60 x = x)) 60 + sz (fun x => tv (bU σ x ∧ lsM (bU σ) (relN σ (σ.1 74) (σ.1 73)) 80 x = x)) 80)), some (Vi 80), z3, z4] [] (HP τ)) : ga_W 5 0 0 0 0 mX11_round Q ga_nox 111 [some (Vr 63), some (Vi (sz (fun x => tv (bL σ x ∧ lsM (bL σ) (relD σ (σ.1 73) (σ.1 74)) 60 x = x)) 60)), some (Vi ((0 : Nat) : Int)), y3, y4] [] (HP σ0) := by
  have e70 : ∀ τ, exc [75, 76] σ τ → τ.1 70 = σ.1 70 := fun τ h => h.1 70 (by decide)
  have hD := hw.1.2.1
  have hD2 := hw.1.2.2.1
  have hE := hw.2.1.2.1
  have hE2 := hw.2.1.2.2.1
  have US : ∀ τ, exc [75, 76] σ τ → ∀ x, bU τ x ↔ bU σ x := fun τ h x => by rw [cg_bU (core_exc h (by decide))]
  have hb := fun m : Nat => sz_b (f := fun x => tv (bU σ x ∧ lsM (bU σ) (relN σ (σ.1 74) (σ.1 73)) 80 x = x)) (fun _ => tv_le) (n := m)
  refine ga_eqlv (lv2 := [some (Vr 63), some (Vi (sz (fun x => tv (bL σ x ∧ lsM (bL σ) (relD σ (σ.1 73) (σ.1 74)) 60 x = x)) 60 + sz (fun x => tv (bU σ x ∧ lsM (bU σ) (relN σ (σ.1 74) (σ.1 73)) 80 x = x)) 0)), some (Vi ((0 : Nat) : Int)), y3, y4]) (by rw [show sz (fun x => tv (bU σ x ∧ lsM (bU σ) (relN σ (σ.1 74) (σ.1 73)) 80 x = x)) 0 = 0 from rfl, Int.add_zero]) ?_
  refine (ga_loop 80 (fun a => ∀ τ z3 z4, exc [75, 76] σ τ → τ.1 75 = σ0.1 75 → (∀ x : Int, 0 ≤ x → x < a → τ.1 76 x = lsM (bU σ) (relN σ (σ.1 74) (σ.1 73)) 80 x) → ga_W 5 0 0 0 0 mX11_round Q ga_nox 111 [some (Vr 63), some (Vi (sz (fun x => tv (bL σ x ∧ lsM (bL σ) (relD σ (σ.1 73) (σ.1 74)) 60 x = x)) 60 + sz (fun x => tv (bU σ x ∧ lsM (bU σ) (relN σ (σ.1 74) (σ.1 73)) 80 x = x)) a)), some (Vi (a : Int)), z3, z4] [] (HP τ)) ?_ ?_ 0 (Nat.zero_le _) σ0 y3 y4 (exc_m h0 (by decide)) rfl (fun x x1 x2 => by omega) : _)
  · intro τ z3 z4 hx h75 hd
    refine ga_iload_n dX11_round_111 rfl ?_
    refine ga_bipush dX11_round_112 ⟨by decide, by decide⟩ (by decide) ?_
    refine ga_icmp_ge (tgt := 219) dX11_round_114 rfl (fun c_114 => ?_) (fun c_114 => ?_)
    · exact KK τ _ _ hx h75 hd
    · omega
  · intro a ha k τ z3 z4 hx h75 hd
    have h5 := hb a
    simp only [sz_s _ a] at k
    have R191 : ∀ (τ : ga_S) (z4 : Option ga_V), exc [75, 76] σ τ → τ.1 75 = σ0.1 75 → (∀ x : Int, 0 ≤ x → x < a + 1 → τ.1 76 x = lsM (bU σ) (relN σ (σ.1 74) (σ.1 73)) 80 x) → ga_W 5 0 0 0 0 mX11_round Q ga_nox 191 [some (Vr 63), some (Vi (sz (fun x => tv (bL σ x ∧ lsM (bL σ) (relD σ (σ.1 73) (σ.1 74)) 60 x = x)) 60 + sz (fun x => tv (bU σ x ∧ lsM (bU σ) (relN σ (σ.1 74) (σ.1 73)) 80 x = x)) a)), some (Vi (a : Int)), some (Vi (tv (bU σ a))), z4] [] (HP τ) := by
      intro τ z4 hx h75 hd
      have T211 : ∀ v : Int, v = tv (bU σ a ∧ lsM (bU σ) (relN σ (σ.1 74) (σ.1 73)) 80 a = a) → ga_W 5 0 0 0 0 mX11_round Q ga_nox 211 [some (Vr 63), some (Vi (sz (fun x => tv (bL σ x ∧ lsM (bL σ) (relD σ (σ.1 73) (σ.1 74)) 60 x = x)) 60 + sz (fun x => tv (bU σ x ∧ lsM (bU σ) (relN σ (σ.1 74) (σ.1 73)) 80 x = x)) a)), some (Vi (a : Int)), some (Vi (tv (bU σ a))), z4] [Vi v, Vi (sz (fun x => tv (bL σ x ∧ lsM (bL σ) (relD σ (σ.1 73) (σ.1 74)) 60 x = x)) 60 + sz (fun x => tv (bU σ x ∧ lsM (bU σ) (relN σ (σ.1 74) (σ.1 73)) 80 x = x)) a)] (HP τ) := by
        intro v hv
        have hv2 := tv_le (p := bU σ a ∧ lsM (bU σ) (relN σ (σ.1 74) (σ.1 73)) 80 a = a)
        rw [← hv] at k hv2
        refine ga_iadd (z := (sz (fun x => tv (bL σ x ∧ lsM (bL σ) (relD σ (σ.1 73) (σ.1 74)) 60 x = x)) 60 + (sz (fun x => tv (bU σ x ∧ lsM (bU σ) (relN σ (σ.1 74) (σ.1 73)) 80 x = x)) a + v))) dX11_round_211 (by omega) (⟨by omega, by omega⟩) ?_
        refine ga_istore_n (lv2 := [_, _, _, _, _]) dX11_round_212 (by decide) rfl rfl ?_
        refine ga_iinc (z := ((a + 1 : Nat) : Int)) (lv2 := [_, _, _, _, _]) dX11_round_213 (by decide) rfl rfl (by omega) (⟨by omega, by omega⟩) rfl ?_
        refine ga_goto (tgt := 111) dX11_round_216 rfl ?_
        exact k τ _ _ hx h75 (fun x x1 x2 => hd x x1 (by omega))
      refine ga_iload_n dX11_round_191 rfl ?_
      refine ga_iload_n dX11_round_192 rfl ?_
      refine ga_if_eq (tgt := 210) dX11_round_193 rfl (fun c_193 => ?_) (fun c_193 => ?_)
      · rw [tv_eq0] at c_193
        refine ga_iconst dX11_round_210 ⟨by decide, by decide⟩ ?_
        exact T211 0 (tvz (fun z => c_193 z.1)).symm
      · rw [tv_ne0] at c_193
        have e := hd a (by omega) (by omega)
        refine ga_aload_n dX11_round_196 rfl ?_
        refine hg_getR grX11_48 dX11_round_197 rfl rfl ?_
        refine ga_iload_n dX11_round_200 rfl ?_
        refine hg_iald dX11_round_201 rfl (by omega) (by omega) ?_
        refine ga_iload_n dX11_round_202 rfl ?_
        refine ga_icmp_ne (tgt := 210) dX11_round_203 rfl (fun c_203 => ?_) (fun c_203 => ?_)
        · rw [e] at c_203
          refine ga_iconst dX11_round_210 ⟨by decide, by decide⟩ ?_
          exact T211 0 (tvz (fun z => c_203 z.2)).symm
        · rw [e] at c_203
          refine ga_iconst dX11_round_206 ⟨by decide, by decide⟩ ?_
          refine ga_goto (tgt := 211) dX11_round_207 rfl ?_
          exact T211 1 (tv1 ⟨c_193, c_203⟩).symm
    refine ga_iload_n dX11_round_111 rfl ?_
    refine ga_bipush dX11_round_112 ⟨by decide, by decide⟩ (by decide) ?_
    refine ga_icmp_ge (tgt := 219) dX11_round_114 rfl (fun c_114 => ?_) (fun c_114 => ?_)
    · omega
    · have x1 : exc [75, 76] σ (stI τ 76 (ga_up (τ.1 76) a a)) := exc_st hx (by decide)
      have d1 : ∀ x : Int, 0 ≤ x → x < a → (stI τ 76 (ga_up (τ.1 76) a a)).1 76 x = lsM (bU σ) (relN σ (σ.1 74) (σ.1 73)) 80 x := fun x q1 q2 => by
        rw [stI_at, ga_up_ne _ _ (by omega)]; exact hd x q1 q2
      refine ga_aload_n dX11_round_117 rfl ?_
      refine hg_getR grX11_48 dX11_round_118 rfl rfl ?_
      refine ga_iload_n dX11_round_121 rfl ?_
      refine ga_iload_n dX11_round_122 rfl ?_
      refine hg_iast dX11_round_123 rfl (by omega) (by omega) ?_
      refine ga_aload_n dX11_round_124 rfl ?_
      refine ga_iload_n dX11_round_125 rfl ?_
      refine hc_V (T_X11_isUsedAt a _ D E (by omega) (by omega) (by rw [e70 _ x1]; exact hD) hD2 (by rw [e70 _ x1]; exact hE) hE2) fX11_isUsedAt rfl kX11_isUsedAt lkX11_149 dX11_round_126 rfl rfl rfl rfl rfl rfl rfl rfl ?_
      rw [tv_congr (US _ x1 a)]
      refine ga_istore_n (lv2 := [_, _, _, _, _]) dX11_round_129 (by decide) rfl rfl ?_
      refine ga_iload_n dX11_round_130 rfl ?_
      refine ga_iconst dX11_round_131 ⟨by decide, by decide⟩ ?_
      refine ga_isub (z := ((a : Int) - 1 - ((0 : Nat) : Int))) dX11_round_132 (by omega) (⟨by omega, by omega⟩) ?_
      refine ga_istore (lv2 := [_, _, _, _, _]) dX11_round_133 (by decide) rfl rfl ?_
      rcases Classical.em (bU σ a) with la | la
      · refine (ga_loop a (fun i => ∀ τ, exc [75, 76] σ τ → τ.1 75 = σ0.1 75 → (∀ x : Int, 0 ≤ x → x < a → τ.1 76 x = lsM (bU σ) (relN σ (σ.1 74) (σ.1 73)) 80 x) → τ.1 76 a = dnF (bU σ) (relN σ (σ.1 74) (σ.1 73)) 80 a ((a : Int) - i) → ga_W 5 0 0 0 0 mX11_round Q ga_nox 135 [some (Vr 63), some (Vi (sz (fun x => tv (bL σ x ∧ lsM (bL σ) (relD σ (σ.1 73) (σ.1 74)) 60 x = x)) 60 + sz (fun x => tv (bU σ x ∧ lsM (bU σ) (relN σ (σ.1 74) (σ.1 73)) 80 x = x)) a)), some (Vi (a : Int)), some (Vi (tv (bU σ a))), some (Vi ((a : Int) - 1 - (i : Int)))] [] (HP τ)) ?_ ?_ 0 (Nat.zero_le _) _ x1 h75 d1 (by rw [stI_at, ga_up_at, show (a : Int) - ((0 : Nat) : Int) = a by omega]; exact dnF_0.symm) : _)
        · intro τ hx h75 hd hu
          rw [show (a : Int) - (a : Int) = 0 by omega, dnF_end (relN_q σ _ _) (by omega) (by omega) la] at hu
          refine ga_iload dX11_round_135 rfl ?_
          refine ga_if_lt (tgt := 191) dX11_round_137 rfl (fun c_137 => ?_) (fun c_137 => ?_)
          · refine R191 τ _ hx h75 (fun x q1 q2 => ?_)
            by_cases q : x = a
            · rw [q]; exact hu
            · exact hd x q1 (by omega)
          · omega
        · intro i hi k2 τ hx h75 hd hu
          have hb : (a : Int) - i = (a : Int) - 1 - i + 1 := by omega
          have hb2 : (a : Int) - ((i + 1 : Nat) : Int) = (a : Int) - 1 - i := by omega
          rw [hb] at hu
          rw [hb2] at k2
          have T184 : ∀ w : Int, w = dnF (bU σ) (relN σ (σ.1 74) (σ.1 73)) 80 a ((a : Int) - 1 - i) → ga_W 5 0 0 0 0 mX11_round Q ga_nox 184 [some (Vr 63), some (Vi (sz (fun x => tv (bL σ x ∧ lsM (bL σ) (relD σ (σ.1 73) (σ.1 74)) 60 x = x)) 60 + sz (fun x => tv (bU σ x ∧ lsM (bU σ) (relN σ (σ.1 74) (σ.1 73)) 80 x = x)) a)), some (Vi (a : Int)), some (Vi (tv (bU σ a))), some (Vi ((a : Int) - 1 - (i : Int)))] [Vi w, Vi (a : Int), Vr 76] (HP τ) := by
            intro w hw
            refine hg_iast dX11_round_184 rfl (by omega) (by omega) ?_
            refine ga_iinc (z := ((a : Int) - 1 - ((i + 1 : Nat) : Int))) (lv2 := [_, _, _, _, _]) dX11_round_185 (by decide) rfl rfl (by omega) (⟨by omega, by omega⟩) rfl ?_
            refine ga_goto (tgt := 135) dX11_round_188 rfl ?_
            refine k2 _ (exc_st hx (by decide)) h75 (fun x q1 q2 => ?_) ?_
            · rw [stI_at, ga_up_ne _ _ (by omega)]; exact hd x q1 q2
            · rw [stI_at, ga_up_at]; exact hw
          have NO : ¬ (bU σ ((a : Int) - 1 - i) ∧ (relN σ (σ.1 74) (σ.1 73)) a ((a : Int) - 1 - i)) → ga_W 5 0 0 0 0 mX11_round Q ga_nox 178 [some (Vr 63), some (Vi (sz (fun x => tv (bL σ x ∧ lsM (bL σ) (relD σ (σ.1 73) (σ.1 74)) 60 x = x)) 60 + sz (fun x => tv (bU σ x ∧ lsM (bU σ) (relN σ (σ.1 74) (σ.1 73)) 80 x = x)) a)), some (Vi (a : Int)), some (Vi (tv (bU σ a))), some (Vi ((a : Int) - 1 - (i : Int)))] [Vi (a : Int), Vr 76] (HP τ) := by
            intro hn
            refine ga_aload_n dX11_round_178 rfl ?_
            refine hg_getR grX11_48 dX11_round_179 rfl rfl ?_
            refine ga_iload_n dX11_round_182 rfl ?_
            refine hg_iald dX11_round_183 rfl (by omega) (by omega) ?_
            refine T184 _ ?_
            rw [hu]
            exact (dnF_no hn).symm
          have hc := core_exc hx (by decide)
          have e73 : τ.1 73 = σ.1 73 := hx.1 73 (by decide)
          have e74 : τ.1 74 = σ.1 74 := hx.1 74 (by decide)
          refine ga_iload dX11_round_135 rfl ?_
          refine ga_if_lt (tgt := 191) dX11_round_137 rfl (fun c_137 => ?_) (fun c_137 => ?_)
          · omega
          · refine ga_iload_n dX11_round_140 rfl ?_
            refine ga_if_eq (tgt := 191) dX11_round_141 rfl (fun c_141 => ?_) (fun c_141 => ?_)
            · rw [tv_eq0] at c_141
              exact absurd la c_141
            · refine ga_aload_n dX11_round_144 rfl ?_
              refine hg_getR grX11_48 dX11_round_145 rfl rfl ?_
              refine ga_iload_n dX11_round_148 rfl ?_
              refine ga_aload_n dX11_round_149 rfl ?_
              refine ga_iload dX11_round_150 rfl ?_
              refine hc_V (T_X11_isUsedAt ((a : Int) - 1 - (i : Int)) τ D E (by omega) (by omega) (by rw [e70 _ hx]; exact hD) hD2 (by rw [e70 _ hx]; exact hE) hE2) fX11_isUsedAt rfl kX11_isUsedAt lkX11_149 dX11_round_152 rfl rfl rfl rfl rfl rfl rfl rfl ?_
              refine ga_if_eq (tgt := 178) dX11_round_155 rfl (fun c_155 => ?_) (fun c_155 => ?_)
              · rw [tv_eq0, US τ hx] at c_155
                exact NO (fun q => c_155 q.1)
              · rw [tv_ne0, US τ hx] at c_155
                refine ga_aload_n dX11_round_158 rfl ?_
                refine ga_iload_n dX11_round_159 rfl ?_
                refine ga_iload dX11_round_160 rfl ?_
                refine hc_V (T_X11_isLikeNet a ((a : Int) - 1 - (i : Int)) τ N D M E (by rw [cg_wfR hc]; exact hw) (by omega) (by omega) (by omega) (by omega) (by rw [cg_okD hc, e73]; exact hn)) fX11_isLikeNet rfl kX11_isLikeNet lkX11_152 dX11_round_162 rfl rfl rfl rfl rfl rfl rfl rfl ?_
                refine ga_if_eq (tgt := 178) dX11_round_165 rfl (fun c_165 => ?_) (fun c_165 => ?_)
                · rw [tv_eq0, cg_relN hc, e73, e74] at c_165
                  exact NO (fun q => c_165 q.2)
                · rw [tv_ne0, cg_relN hc, e73, e74] at c_165
                  refine ga_aload_n dX11_round_168 rfl ?_
                  refine hg_getR grX11_48 dX11_round_169 rfl rfl ?_
                  refine ga_iload dX11_round_172 rfl ?_
                  refine hg_iald dX11_round_174 rfl (by omega) (by omega) ?_
                  refine ga_goto (tgt := 184) dX11_round_175 rfl ?_
                  refine T184 _ ?_
                  rw [hd _ (by omega) (by omega)]
                  exact (dnF_yes (relN_q σ _ _) (by omega) (by omega) la c_155 c_165 (by omega) (by omega)).symm
      · have d2 : ∀ x : Int, 0 ≤ x → x < a + 1 → (stI τ 76 (ga_up (τ.1 76) a a)).1 76 x = lsM (bU σ) (relN σ (σ.1 74) (σ.1 73)) 80 x := fun x q1 q2 => by
          by_cases q : x = a
          · rw [q, stI_at, ga_up_at, lsM_n la]
          · exact d1 x q1 (by omega)
        refine ga_iload dX11_round_135 rfl ?_
        refine ga_if_lt (tgt := 191) dX11_round_137 rfl (fun c_137 => ?_) (fun c_137 => ?_)
        · exact R191 _ _ x1 h75 d2
        · refine ga_iload_n dX11_round_140 rfl ?_
          refine ga_if_eq (tgt := 191) dX11_round_141 rfl (fun c_141 => ?_) (fun c_141 => ?_)
          · exact R191 _ _ x1 h75 d2
          · rw [tv_ne0] at c_141
            exact absurd c_141 la
theorem T_X11_round (σ : ga_S) (N D M E : Nat) (hw : wfR σ N D M E) (hn : okN σ (σ.1 74)) (hd : okD σ (σ.1 73)) : ga_Mt 5 0 0 mX11_round [Vr 63] (HP σ) (fun v h => ∃ τ, exc [75, 76] σ τ ∧ (∀ x : Int, 0 ≤ x → x < 60 → τ.1 75 x = lsM (bL σ) (relD σ (σ.1 73) (σ.1 74)) 60 x) ∧ (∀ x : Int, 0 ≤ x → x < 80 → τ.1 76 x = lsM (bU σ) (relN σ (σ.1 74) (σ.1 73)) 80 x) ∧ v = some (Vi (sz (fun x => tv (bL σ x ∧ lsM (bL σ) (relD σ (σ.1 73) (σ.1 74)) 60 x = x)) 60 + sz (fun x => tv (bU σ x ∧ lsM (bU σ) (relN σ (σ.1 74) (σ.1 73)) 80 x = x)) 80)) ∧ h = HP τ) ga_nox := by
  have hb := sz_b (f := fun x => tv (bL σ x ∧ lsM (bL σ) (relD σ (σ.1 73) (σ.1 74)) 60 x = x)) (fun _ => tv_le) (n := 60)
  refine ga_meth [some (Vr 63), none, none, none, none] rfl rfl (by decide +kernel) (Nat.le_of_ble_eq_true rfl) rfl ?_
  refine ga_iconst dX11_round_0 ⟨by decide, by decide⟩ ?_
  refine ga_istore_n (lv2 := [_, _, _, _, _]) dX11_round_1 (by decide) rfl rfl ?_
  refine ga_iconst dX11_round_2 ⟨by decide, by decide⟩ ?_
  refine ga_istore_n (lv2 := [_, _, _, _, _]) dX11_round_3 (by decide) rfl rfl ?_
  refine W_round_D σ N D M E hw hn none none (fun τ z3 z4 hx hd2 => ?_)
  refine ga_iconst dX11_round_109 ⟨by decide, by decide⟩ ?_
  refine ga_istore_n (lv2 := [_, _, _, _, _]) dX11_round_110 (by decide) rfl rfl ?_
  refine W_round_N σ τ N D M E hw hd _ _ hx hb (fun τ2 z3 z4 hx2 h75 hd3 => ?_)
  refine ga_iload_n dX11_round_219 rfl ?_
  refine ga_ret (v := some _) ?_ rfl (by decide) (by decide) ⟨dX11_round_220, _, rfl, rfl⟩
  refine ⟨_, hx2, fun x x1 x2 => ?_, hd3, rfl, rfl⟩
  rw [h75]
  exact hd2 x x1 x2
