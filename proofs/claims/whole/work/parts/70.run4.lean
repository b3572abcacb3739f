-- the face: run, whole
theorem Srch_r {β : ga_S} {R : Int → Int} {lim L : Int} : ∀ {n : Nat} {d : Int} {ch : Int → Int} {t r : Int} {c2 : Int → Int}, Srch β R lim L n d ch t r c2 → r = 0 ∨ r = 1 ∨ r = 2
  | 0, _, _, _, _, _, h => by
    rcases h with ⟨_, h⟩ | ⟨_, _, h, _⟩ | ⟨_, _, _, _, h⟩
    · exact Or.inl h
    · exact Or.inr (Or.inl h)
    · exact Or.inr (Or.inr h)
  | n + 1, _, _, _, _, _, h => by
    obtain ⟨_, _, h⟩ := h
    rcases h with ⟨_, h⟩ | ⟨_, _, _, ⟨_, h⟩ | ⟨_, h⟩⟩
    · exact Srch_r h
    · exact Srch_r h
    · exact Srch_r h
def RLi (σ β : ga_S) (N D M E K : Nat) (τ0 : ga_S) : ga_Po := fun v h => ∃ τ2, exc (0 :: 60 :: 61 :: 62 :: SC) τ0 τ2 ∧ v = some (Vi 0) ∧ h = HP τ2 ∧ RNa σ β N D M E K τ0 τ2 ∧ dlh (τ2.1 61) (τ2.1 60 0) (dfL (df3 τ0 N D M E) (clL β (τ0.1 23) (τ0.1 36) (τ0.1 37) 60))
def RKe (σ β : ga_S) (N D M E K L : Nat) (c2 : Int → Int) (τ0 : ga_S) : ga_Po := fun v h => ∃ τ2, exc (0 :: 55 :: 56 :: 57 :: 58 :: 59 :: SC) τ0 τ2 ∧ v = some (Vi 1) ∧ h = HP τ2 ∧ RNa σ β N D M E K τ0 τ2 ∧ τ2.1 55 0 = 1 ∧ CSr (ln β) c2 (τ0.1 56) (τ2.1 56) L ∧ CSr c2 (ln β) (τ0.1 57) (τ2.1 57) L ∧ (∀ i : Int, 0 ≤ i → i < 40 → τ2.1 58 i = gN β c2 L 40 i) ∧ KN2 (gN β c2 L 40) (τ2.1 59) 40
theorem T_X10_run (x : Int) (σ β : ga_S) (N D M E K L : Nat) (hx : 0 ≤ x ∧ x ≤ 2000) (h : dsb σ β N D M E) (hp : prtB β) (hK : isK β K) (hh : agH (σ.2 18) β) (hf : fpB β) (hu : unq β) (hL : lnC β 30 = L) (hm : ∀ τ, RN0 σ β N D M E K τ → muchF τ N D M E → nmd β ∧ utot β) : ga_Mt 6 0 0 mX10_run [Vr 0, Vl x] (HP σ) (fun v h => ∃ τ0, RN0 σ β N D M E K τ0 ∧ ((¬ muchF τ0 N D M E ∧ RLi σ β N D M E K τ0 v h) ∨ (muchF τ0 N D M E ∧ ∃ n r c2, Srch β (RDN β K).1 x L n 0 (fun _ => -1) 0 r c2 ∧ ((r = 0 ∧ RLi σ β N D M E K τ0 v h) ∨ (r = 1 ∧ RKe σ β N D M E K L c2 τ0 v h ∧ (∀ i : Int, 0 ≤ i → i < L → 0 ≤ c2 i ∧ c2 i < E ∧ bL β (30 + c2 i)) ∧ (∀ i j : Int, 0 ≤ i → i < L → 0 ≤ j → j < L → c2 i = c2 j → i = j)) ∨ (r = 2 ∧ ∃ τ2, exc SC τ0 τ2 ∧ v = some (Vi 2) ∧ h = HP τ2))))) ga_nox := by
  refine ga_meth [some (Vr 0), some (Vl x), none, none] rfl rfl (by decide +kernel) (Nat.le_of_ble_eq_true rfl) rfl ?_
  refine W_run0 x σ β N D M E K _ hx h hp hK (fun τ h0 => ?_)
  have g0 := h0
  obtain ⟨a1, a2, ⟨P, a3⟩, _⟩ := g0
  have i1 := a2.1.1
  have i2 := a2.2.1.1
  refine ga_aload_n dX10_run_58 rfl ?_
  refine hg_getR grX10_10 dX10_run_59 rfl rfl ?_
  refine hc_V (T_X1_haveAsMuch τ N D M E i1.1 i1.2.1 i1.2.2.1 i1.2.2.2.1 i2.1 i2.2.1 i2.2.2.1 i2.2.2.2.1) fX1_haveAsMuch rfl kX1_haveAsMuch lkX10_177 dX10_run_62 rfl rfl rfl rfl rfl rfl rfl rfl ?_
  refine ga_if_eq (tgt := 86) dX10_run_65 rfl (fun c_65 => ?_) (fun c_65 => ?_)
  · rw [tv_eq0] at c_65
    exact W_run_list x 0 σ β N D M E K τ τ h0 exc_r (by decide) (by decide) (fun v h2 q => ⟨τ, h0, Or.inl ⟨c_65, q⟩⟩)
  · rw [tv_ne0] at c_65
    have nm := hm τ h0 c_65
    obtain ⟨n, r, c2, hs⟩ := Srch_ex β (RDN β K).1 x L (2 * (x - 0) + 0 + 1).toNat 0 (fun _ => -1) 0 (by decide) hx.1 (by omega)
    have hs2 := hs
    rw [← hL] at hs2
    have HH : agH (τ.2 18) β := by rw [a1.2]; exact hh
    refine ga_aload_n dX10_run_68 rfl ?_
    refine hg_getR grX10_33 dX10_run_69 rfl rfl ?_
    refine ga_aload_n dX10_run_72 rfl ?_
    refine hg_getR grX10_10 dX10_run_73 rfl rfl ?_
    refine ga_aload_n dX10_run_76 rfl ?_
    refine hg_getR grX10_26 dX10_run_77 rfl rfl ?_
    refine ga_lload_n dX10_run_80 rfl ?_
    refine ga_l2i dX10_run_81 (⟨by omega, by omega⟩) ?_
    refine hc_VP (T_X8_find τ β N D M E P n (RDN β K).1 x r c2 a2 HH hf a3 nm.1 hu nm.2 hx.1 hx.2 hs2) fX8_find rfl kX8_find lkX10_181 dX10_run_82 rfl rfl rfl rfl rfl rfl rfl rfl ?_
    rintro v h2 ⟨τ2, x1, x2, x3, x4⟩
    rw [x2, x3]
    refine ga_istore_n (lv2 := [_, _, _, _]) dX10_run_85 (by decide) rfl rfl ?_
    rcases Srch_r hs with q | q | q
    · subst q
      exact W_run_list x 0 σ β N D M E K τ τ2 h0 x1 (by decide) (by decide) (fun v h2 q => ⟨τ, h0, Or.inr ⟨c_65, n, 0, c2, hs, Or.inl ⟨rfl, q⟩⟩⟩)
    · subst q
      have F := x4 rfl
      rw [hL] at F
      exact W_run_keep x σ β N D M E K L c2 τ τ2 h0 hL F (fun v h2 q => ⟨τ, h0, Or.inr ⟨c_65, n, 1, c2, hs, Or.inr (Or.inl ⟨rfl, q, F.2.2.2.2.2.1, F.2.2.2.2.2.2.1⟩)⟩⟩)
    · subst q
      refine ga_iload_n dX10_run_86 rfl ?_
      refine ga_iconst dX10_run_87 ⟨by decide, by decide⟩ ?_
      refine ga_icmp_ne (tgt := 93) dX10_run_88 rfl (fun c_88 => ?_) (fun c_88 => ?_)
      · exact absurd rfl c_88
      · refine ga_iload_n dX10_run_91 rfl ?_
        refine ga_ret (v := some _) ?_ rfl (by decide) (by decide) ⟨dX10_run_92, _, rfl, rfl⟩
        exact ⟨τ, h0, Or.inr ⟨c_65, n, 2, c2, hs, Or.inr (Or.inr ⟨rfl, τ2, x1, rfl, rfl⟩)⟩⟩
