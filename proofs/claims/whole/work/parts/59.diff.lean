-- Differences: rows, kinds, nets
abbrev d4 : Type := Int × Int × Int × Int
/-- n rows at f, those of l -/
def dlh (f : Int → Int) (n : Int) (l : List d4) : Prop := n = l.length ∧ ∀ i : Nat, i < l.length → l[i]? = some (f ((i : Int) * 4), f ((i : Int) * 4 + 1), f ((i : Int) * 4 + 2), f ((i : Int) * 4 + 3))
def addF (f : Int → Int) (n a b c d : Int) : Int → Int := ga_up (ga_up (ga_up (ga_up f (n * 4) a) (n * 4 + 1) b) (n * 4 + 2) c) (n * 4 + 3) d
theorem dlh_0 {f : Int → Int} : dlh f 0 [] := ⟨rfl, fun i h => absurd h (Nat.not_lt_zero _)⟩
theorem addF_in {f : Int → Int} {n a b c d : Int} : addF f n a b c d (n * 4) = a ∧ addF f n a b c d (n * 4 + 1) = b ∧ addF f n a b c d (n * 4 + 2) = c ∧ addF f n a b c d (n * 4 + 3) = d := by
  unfold addF
  refine ⟨?_, ?_, ?_, ga_up_at _ _ _⟩
  · rw [ga_up_ne _ _ (by omega), ga_up_ne _ _ (by omega), ga_up_ne _ _ (by omega), ga_up_at]
  · rw [ga_up_ne _ _ (by omega), ga_up_ne _ _ (by omega), ga_up_at]
  · rw [ga_up_ne _ _ (by omega), ga_up_at]
theorem addF_out {f : Int → Int} {n a b c d j : Int} (h : j < n * 4) : addF f n a b c d j = f j := by
  unfold addF
  rw [ga_up_ne _ _ (by omega), ga_up_ne _ _ (by omega), ga_up_ne _ _ (by omega), ga_up_ne _ _ (by omega)]
theorem dlh_add {f : Int → Int} {n a b c d : Int} {l : List d4} (h : dlh f n l) : dlh (addF f n a b c d) (n + 1) (l ++ [(a, b, c, d)]) := by
  obtain ⟨h1, h2⟩ := h
  refine ⟨by rw [List.length_append, h1]; rfl, fun i hi => ?_⟩
  rw [List.length_append] at hi
  have hi2 : i < l.length + 1 := hi
  by_cases q : i < l.length
  · rw [List.getElem?_append_left q, h2 i q, addF_out (by omega), addF_out (by omega), addF_out (by omega), addF_out (by omega)]
  · have e : i = l.length := by omega
    have e2 : (i : Int) = n := by omega
    rw [List.getElem?_append_right (by omega), e2, addF_in.1, addF_in.2.1, addF_in.2.2.1, addF_in.2.2.2, e, Nat.sub_self]
    rfl
theorem T_X2_add (a b c d : Int) (σ : ga_S) (n : Int) (hn : σ.1 60 0 = n) (h1 : 0 ≤ n) (h2 : n < 89) : ga_Mt 0 0 0 mX2_add [Vr 60, Vi a, Vi b, Vi c, Vi d] (HP σ) (gis none (stI (stI σ 61 (addF (σ.1 61) n a b c d)) 60 (ga_up (σ.1 60) 0 (n + 1)))) ga_nox := by
  refine ga_meth [some (Vr 60), some (Vi a), some (Vi b), some (Vi c), some (Vi d), none] rfl rfl (by decide +kernel) (Nat.le_of_ble_eq_true rfl) rfl ?_
  refine ga_aload_n dX2_add_0 rfl ?_
  refine hg_getI 0 grX2_9 dX2_add_1 rfl rfl rfl ?_
  rw [hn]
  refine ga_iconst dX2_add_4 ⟨by decide, by decide⟩ ?_
  refine ga_imul dX2_add_5 rfl (⟨by omega, by omega⟩) ?_
  refine ga_istore (lv2 := [_, _, _, _, _, _]) dX2_add_6 (by decide) rfl rfl ?_
  refine ga_aload_n dX2_add_8 rfl ?_
  refine hg_getR grX2_15 dX2_add_9 rfl rfl ?_
  refine ga_iload dX2_add_12 rfl ?_
  refine ga_iload_n dX2_add_14 rfl ?_
  refine hg_iast dX2_add_15 rfl (by omega) (by omega) ?_
  refine ga_aload_n dX2_add_16 rfl ?_
  refine hg_getR grX2_15 dX2_add_17 rfl rfl ?_
  refine ga_iload dX2_add_20 rfl ?_
  refine ga_iconst dX2_add_22 ⟨by decide, by decide⟩ ?_
  refine ga_iadd dX2_add_23 rfl (⟨by omega, by omega⟩) ?_
  refine ga_iload_n dX2_add_24 rfl ?_
  refine hg_iast dX2_add_25 rfl (by omega) (by omega) ?_
  rw [stI_at, stI_st]
  refine ga_aload_n dX2_add_26 rfl ?_
  refine hg_getR grX2_15 dX2_add_27 rfl rfl ?_
  refine ga_iload dX2_add_30 rfl ?_
  refine ga_iconst dX2_add_32 ⟨by decide, by decide⟩ ?_
  refine ga_iadd dX2_add_33 rfl (⟨by omega, by omega⟩) ?_
  refine ga_iload_n dX2_add_34 rfl ?_
  refine hg_iast dX2_add_35 rfl (by omega) (by omega) ?_
  rw [stI_at, stI_st]
  refine ga_aload_n dX2_add_36 rfl ?_
  refine hg_getR grX2_15 dX2_add_37 rfl rfl ?_
  refine ga_iload dX2_add_40 rfl ?_
  refine ga_iconst dX2_add_42 ⟨by decide, by decide⟩ ?_
  refine ga_iadd dX2_add_43 rfl (⟨by omega, by omega⟩) ?_
  refine ga_iload dX2_add_44 rfl ?_
  refine hg_iast dX2_add_46 rfl (by omega) (by omega) ?_
  rw [stI_at, stI_st]
  refine ga_aload_n dX2_add_47 rfl ?_
  refine ga_dup dX2_add_48 rfl ?_
  refine hg_getI 0 grX2_9 dX2_add_49 rfl rfl rfl ?_
  have e : ∀ f, (stI σ 61 f).1 60 0 = n := fun _ => hn
  rw [e]
  refine ga_iconst dX2_add_52 ⟨by decide, by decide⟩ ?_
  refine ga_iadd dX2_add_53 rfl (⟨by omega, by omega⟩) ?_
  refine hg_putI 0 gfX2_9 dX2_add_54 rfl rfl rfl ?_
  refine ga_ret (v := none) ?_ rfl (by decide) (by decide) ⟨dX2_add_57, rfl⟩
  exact ⟨rfl, rfl⟩
theorem T_X2_forget (σ : ga_S) : ga_Mt 0 0 0 mX2_forget [Vr 60] (HP σ) (gis none (stI σ 60 (ga_up (σ.1 60) 0 0))) ga_nox := by
  refine ga_meth [some (Vr 60)] rfl rfl (by decide +kernel) (Nat.le_of_ble_eq_true rfl) rfl ?_
  refine ga_aload_n dX2_forget_0 rfl ?_
  refine ga_iconst dX2_forget_1 ⟨by decide, by decide⟩ ?_
  refine hg_putI 0 gfX2_9 dX2_forget_2 rfl rfl rfl ?_
  refine ga_ret (v := none) ?_ rfl (by decide) (by decide) ⟨dX2_forget_5, rfl⟩
  exact ⟨rfl, rfl⟩
/-- rows of the kinds before k -/
noncomputable def kdL (a b : Int → Int) : Nat → List d4
  | 0 => []
  | k + 1 => kdL a b k ++ tif (a k = b k) [] [(1, (k : Int), a k, b k)]
theorem kdL_s (a b : Int → Int) (k : Nat) : kdL a b (k + 1) = kdL a b k ++ tif (a k = b k) [] [(1, (k : Int), a k, b k)] := rfl
theorem kdL_len (a b : Int → Int) : ∀ k : Nat, (kdL a b k).length ≤ k
  | 0 => Nat.le_refl _
  | k + 1 => by
    rw [kdL_s, List.length_append]
    have := kdL_len a b k
    by_cases q : a k = b k
    · rw [tif1 q]; show _ + 0 ≤ _; omega
    · rw [tif0 q]; show _ + 1 ≤ _; omega
abbrev DC : List Nat := [60, 61, 62]
noncomputable abbrev okC (gone kind : Int → Int) (D : Nat) (kd : Int) : Int := sz (fun d => tv (gone d = 0 ∧ kind d = kd)) D
theorem T_X2_listKinds (σ : ga_S) (D E : Nat) (hD : σ.1 2 3 = D) (hD2 : D ≤ 30) (hE : σ.1 9 3 = E) (hE2 : E ≤ 30) (h0 : σ.1 60 0 = 0) : ga_Mt 1 0 0 mX2_listKinds [Vr 60, Vr 1] (HP σ) (fun v h => ∃ τ, exc DC σ τ ∧ dlh (τ.1 61) (τ.1 60 0) (kdL (okC (σ.1 7) (σ.1 5) D) (okC (σ.1 14) (σ.1 12) E) 8) ∧ v = none ∧ h = HP τ) ga_nox := by
  refine ga_meth [some (Vr 60), some (Vr 1), none, none, none] rfl rfl (by decide +kernel) (Nat.le_of_ble_eq_true rfl) rfl ?_
  refine ga_iconst dX2_listKinds_0 ⟨by decide, by decide⟩ ?_
  refine ga_istore_n (lv2 := [_, _, _, _, _]) dX2_listKinds_1 (by decide) rfl rfl ?_
  refine (ga_loop 8 (fun k => ∀ τ y z, exc DC σ τ → dlh (τ.1 61) (τ.1 60 0) (kdL (okC (σ.1 7) (σ.1 5) D) (okC (σ.1 14) (σ.1 12) E) k) → ga_W 1 0 0 0 0 mX2_listKinds (fun v h => ∃ τ, exc DC σ τ ∧ dlh (τ.1 61) (τ.1 60 0) (kdL (okC (σ.1 7) (σ.1 5) D) (okC (σ.1 14) (σ.1 12) E) 8) ∧ v = none ∧ h = HP τ) ga_nox 2 [some (Vr 60), some (Vr 1), some (Vi (k : Int)), y, z] [] (HP τ)) ?_ ?_ 0 (Nat.zero_le _) σ none none exc_r (by rw [h0]; exact dlh_0) : _)
  · intro τ y z hx h
    refine ga_iload_n dX2_listKinds_2 rfl ?_
    refine ga_bipush dX2_listKinds_3 ⟨by decide, by decide⟩ (by decide) ?_
    refine ga_icmp_ge (tgt := 48) dX2_listKinds_5 rfl (fun c_5 => ?_) (fun c_5 => ?_)
    · refine ga_ret (v := none) ?_ rfl (by decide) (by decide) ⟨dX2_listKinds_48, rfl⟩
      exact ⟨τ, hx, h, rfl, rfl⟩
    · omega
  · intro k hk ih τ y z hx h
    have e2 : τ.1 2 3 = D := by rw [hx.1 2 (by decide)]; exact hD
    have e9 : τ.1 9 3 = E := by rw [hx.1 9 (by decide)]; exact hE
    have e5 := hx.1 5 (by decide)
    have e7 := hx.1 7 (by decide)
    have e12 := hx.1 12 (by decide)
    have e14 := hx.1 14 (by decide)
    have len := kdL_len (okC (σ.1 7) (σ.1 5) D) (okC (σ.1 14) (σ.1 12) E) k
    refine ga_iload_n dX2_listKinds_2 rfl ?_
    refine ga_bipush dX2_listKinds_3 ⟨by decide, by decide⟩ (by decide) ?_
    refine ga_icmp_ge (tgt := 48) dX2_listKinds_5 rfl (fun c_5 => ?_) (fun c_5 => ?_)
    · omega
    · refine ga_aload_n dX2_listKinds_8 rfl ?_
      refine hg_getR grX2_41 dX2_listKinds_9 rfl rfl ?_
      refine ga_iload_n dX2_listKinds_12 rfl ?_
      refine hc_V (T_X9_presentOfKind_2 k τ D e2 hD2) fX9_presentOfKind rfl kX9_presentOfKind lkX2_47 dX2_listKinds_13 rfl rfl rfl rfl rfl rfl rfl rfl ?_
      rw [e5, e7]
      refine ga_istore_n (lv2 := [_, _, _, _, _]) dX2_listKinds_16 (by decide) rfl rfl ?_
      refine ga_aload_n dX2_listKinds_17 rfl ?_
      refine hg_getR grX2_53 dX2_listKinds_18 rfl rfl ?_
      refine ga_iload_n dX2_listKinds_21 rfl ?_
      refine hc_V (T_X9_presentOfKind_9 k τ E e9 hE2) fX9_presentOfKind rfl kX9_presentOfKind lkX2_47 dX2_listKinds_22 rfl rfl rfl rfl rfl rfl rfl rfl ?_
      rw [e12, e14]
      refine ga_istore (lv2 := [_, _, _, _, _]) dX2_listKinds_25 (by decide) rfl rfl ?_
      refine ga_iload_n dX2_listKinds_27 rfl ?_
      refine ga_iload dX2_listKinds_28 rfl ?_
      refine ga_icmp_eq (tgt := 42) dX2_listKinds_30 rfl (fun c_30 => ?_) (fun c_30 => ?_)
      · have c9 : okC (σ.1 7) (σ.1 5) D k = okC (σ.1 14) (σ.1 12) E k := c_30
        refine ga_iinc (z := ((k + 1 : Nat) : Int)) (lv2 := [_, _, _, _, _]) dX2_listKinds_42 (by decide) rfl rfl (by omega) (⟨by omega, by omega⟩) rfl ?_
        refine ga_goto (tgt := 2) dX2_listKinds_45 rfl ?_
        exact ih τ _ _ hx (by rw [kdL_s, tif1 c9, List.append_nil]; exact h)
      · have c9 : ¬ okC (σ.1 7) (σ.1 5) D k = okC (σ.1 14) (σ.1 12) E k := c_30
        have hl := h.1
        refine ga_aload_n dX2_listKinds_33 rfl ?_
        refine ga_iconst dX2_listKinds_34 ⟨by decide, by decide⟩ ?_
        refine ga_iload_n dX2_listKinds_35 rfl ?_
        refine ga_iload_n dX2_listKinds_36 rfl ?_
        refine ga_iload dX2_listKinds_37 rfl ?_
        refine hc_Vv (T_X2_add 1 k _ _ τ (τ.1 60 0) rfl (by omega) (by omega)) fX2_add rfl kX2_add lkX2_37 dX2_listKinds_39 rfl rfl rfl rfl rfl rfl rfl rfl ?_
        refine ga_iinc (z := ((k + 1 : Nat) : Int)) (lv2 := [_, _, _, _, _]) dX2_listKinds_42 (by decide) rfl rfl (by omega) (⟨by omega, by omega⟩) rfl ?_
        refine ga_goto (tgt := 2) dX2_listKinds_45 rfl ?_
        refine ih _ _ _ (exc_st (exc_st hx (by decide)) (by decide)) ?_
        rw [kdL_s, tif0 c9]
        exact dlh_add h
theorem T_X2_listNets (σ : ga_S) (N M : Nat) (l : List d4) (hN : σ.1 2 0 = N) (hN2 : N ≤ 40) (hM : σ.1 9 0 = M) (hM2 : M ≤ 40) (h : dlh (σ.1 61) (σ.1 60 0) l) (hl : l.length < 89) : ga_Mt 1 0 0 mX2_listNets [Vr 60, Vr 1] (HP σ) (fun v h => ∃ τ, exc DC σ τ ∧ dlh (τ.1 61) (τ.1 60 0) (l ++ tif (sz (fun d => tv (σ.1 4 d ≠ 0)) N = sz (fun d => tv (σ.1 11 d ≠ 0)) M) [] [(2, 0, sz (fun d => tv (σ.1 4 d ≠ 0)) N, sz (fun d => tv (σ.1 11 d ≠ 0)) M)]) ∧ v = none ∧ h = HP τ) ga_nox := by
  refine ga_meth [some (Vr 60), some (Vr 1), none, none] rfl rfl (by decide +kernel) (Nat.le_of_ble_eq_true rfl) rfl ?_
  have h1 := h.1
  refine ga_aload_n dX2_listNets_0 rfl ?_
  refine hg_getR grX2_41 dX2_listNets_1 rfl rfl ?_
  refine hc_V (T_X9_usedCount_2 σ N hN hN2) fX9_usedCount rfl kX9_usedCount lkX2_56 dX2_listNets_4 rfl rfl rfl rfl rfl rfl rfl rfl ?_
  refine ga_istore_n (lv2 := [_, _, _, _]) dX2_listNets_7 (by decide) rfl rfl ?_
  refine ga_aload_n dX2_listNets_8 rfl ?_
  refine hg_getR grX2_53 dX2_listNets_9 rfl rfl ?_
  refine hc_V (T_X9_usedCount_9 σ M hM hM2) fX9_usedCount rfl kX9_usedCount lkX2_56 dX2_listNets_12 rfl rfl rfl rfl rfl rfl rfl rfl ?_
  refine ga_istore_n (lv2 := [_, _, _, _]) dX2_listNets_15 (by decide) rfl rfl ?_
  refine ga_iload_n dX2_listNets_16 rfl ?_
  refine ga_iload_n dX2_listNets_17 rfl ?_
  refine ga_icmp_eq (tgt := 29) dX2_listNets_18 rfl (fun c_18 => ?_) (fun c_18 => ?_)
  · refine ga_ret (v := none) ?_ rfl (by decide) (by decide) ⟨dX2_listNets_29, rfl⟩
    exact ⟨σ, exc_r, by rw [tif1 c_18, List.append_nil]; exact h, rfl, rfl⟩
  · refine ga_aload_n dX2_listNets_21 rfl ?_
    refine ga_iconst dX2_listNets_22 ⟨by decide, by decide⟩ ?_
    refine ga_iconst dX2_listNets_23 ⟨by decide, by decide⟩ ?_
    refine ga_iload_n dX2_listNets_24 rfl ?_
    refine ga_iload_n dX2_listNets_25 rfl ?_
    refine hc_Vv (T_X2_add 2 0 _ _ σ (σ.1 60 0) rfl (by omega) (by omega)) fX2_add rfl kX2_add lkX2_37 dX2_listNets_26 rfl rfl rfl rfl rfl rfl rfl rfl ?_
    refine ga_ret (v := none) ?_ rfl (by decide) (by decide) ⟨dX2_listNets_29, rfl⟩
    refine ⟨_, exc_st (exc_st exc_r (by decide)) (by decide), ?_, rfl, rfl⟩
    rw [tif0 c_18]
    exact dlh_add h
