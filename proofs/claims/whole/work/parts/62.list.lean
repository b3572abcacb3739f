-- Differences: list
noncomputable def dfL (l3 cl : List d4) : List d4 := tif (l3 = []) (tif (cl = []) [(5, 0, 0, 0)] cl) l3
/-- the rows that don't speak of classes, told of a state's cells -/
noncomputable abbrev df3 (σ : ga_S) (N D M E : Nat) : List d4 := (kdL (okC (σ.1 7) (σ.1 5) D) (okC (σ.1 14) (σ.1 12) E) 8 ++ tif (sz (fun d => tv (σ.1 4 d ≠ 0)) N = sz (fun d => tv (σ.1 11 d ≠ 0)) M) [] [(2, 0, sz (fun d => tv (σ.1 4 d ≠ 0)) N, sz (fun d => tv (σ.1 11 d ≠ 0)) M)]) ++ nmL (σ.1 3) (σ.1 10) N M 80 (-1)
theorem T_X2_list (σ β : ga_S) (N D M E : Nat) (hd : dsg σ β N D M E) (hC : ∀ x : Int, 0 ≤ x → x < 60 → bL β x → 0 ≤ σ.1 23 x ∧ σ.1 23 x < 60) (h0 : σ.1 60 0 = 0) : ga_Mt 3 0 0 mX2_list [Vr 60, Vr 1, Vr 21] (HP σ) (fun v h => ∃ τ, exc DC σ τ ∧ dlh (τ.1 61) (τ.1 60 0) (dfL (df3 σ N D M E) (clL β (σ.1 23) (σ.1 36) (σ.1 37) 60)) ∧ v = none ∧ h = HP τ) ga_nox := by
  have h1 := hd.1
  have h2 := hd.2.1
  have hN := h1.1.1
  have hN2 := h1.1.2.1
  have hD := h1.1.2.2.1
  have hD2 := h1.1.2.2.2.1
  have hM := h2.1.1
  have hM2 := h2.1.2.1
  have hE := h2.1.2.2.1
  have hE2 := h2.1.2.2.2.1
  refine ga_meth [some (Vr 60), some (Vr 1), some (Vr 21)] rfl rfl (by decide +kernel) (Nat.le_of_ble_eq_true rfl) rfl ?_
  refine ga_aload_n dX2_list_0 rfl ?_
  refine ga_aload_n dX2_list_1 rfl ?_
  refine hc_VP (T_X2_listKinds σ D E hD hD2 hE hE2 h0) fX2_listKinds rfl kX2_listKinds lkX2_23 dX2_list_2 rfl rfl rfl rfl rfl rfl rfl rfl ?_
  rintro v h ⟨τ, x1, x2, x3, x4⟩
  rw [x3, x4]
  have len1 := kdL_len (okC (σ.1 7) (σ.1 5) D) (okC (σ.1 14) (σ.1 12) E) 8
  refine ga_aload_n dX2_list_5 rfl ?_
  refine ga_aload_n dX2_list_6 rfl ?_
  refine hc_VP (T_X2_listNets τ N M _ (by rw [x1.1 2 (by decide)]; exact hN) hN2 (by rw [x1.1 9 (by decide)]; exact hM) hM2 x2 (by omega)) fX2_listNets rfl kX2_listNets lkX2_27 dX2_list_7 rfl rfl rfl rfl rfl rfl rfl rfl ?_
  rintro v h ⟨τ2, y1, y2, y3, y4⟩
  rw [y3, y4]
  rw [x1.1 4 (by decide), x1.1 11 (by decide)] at y2
  have x02 : exc DC σ τ2 := exc_tr x1 y1 (fun _ z => z) (fun _ z => z)
  have len2 : (kdL (okC (σ.1 7) (σ.1 5) D) (okC (σ.1 14) (σ.1 12) E) 8 ++ tif (sz (fun d => tv (σ.1 4 d ≠ 0)) N = sz (fun d => tv (σ.1 11 d ≠ 0)) M) [] [((2 : Int), (0 : Int), sz (fun d => tv (σ.1 4 d ≠ 0)) N, sz (fun d => tv (σ.1 11 d ≠ 0)) M)]).length ≤ 9 := by
    rw [List.length_append]
    by_cases q : sz (fun d => tv (σ.1 4 d ≠ 0)) N = sz (fun d => tv (σ.1 11 d ≠ 0)) M
    · rw [tif1 q]; show _ + 0 ≤ _; omega
    · rw [tif0 q]; show _ + 1 ≤ _; omega
  refine ga_aload_n dX2_list_10 rfl ?_
  refine ga_aload_n dX2_list_11 rfl ?_
  refine hc_VP (T_X2_listNames τ2 N M _ (by rw [x02.1 2 (by decide)]; exact hN) hN2 (by rw [x02.1 9 (by decide)]; exact hM) hM2 y2 len2) fX2_listNames rfl kX2_listNames lkX2_30 dX2_list_12 rfl rfl rfl rfl rfl rfl rfl rfl ?_
  rintro v h ⟨τ3, z1, z2, z3, z4⟩
  rw [z3, z4]
  rw [x02.1 3 (by decide), x02.1 10 (by decide)] at z2
  have x03 : exc DC σ τ3 := exc_tr x02 z1 (fun _ z => z) (fun _ z => z)
  have z5 : dlh (τ3.1 61) (τ3.1 60 0) (df3 σ N D M E) := z2
  clear z2
  revert z5
  generalize df3 σ N D M E = l3
  intro z2
  have hl3 := z2.1
  refine ga_aload_n dX2_list_15 rfl ?_
  refine hg_getI 0 grX2_9 dX2_list_16 rfl rfl rfl ?_
  refine ga_if_ne (tgt := 28) dX2_list_19 rfl (fun c_19 => ?_) (fun c_19 => ?_)
  · have ne : ¬ l3 = [] := fun z => c_19 (by rw [hl3, z]; rfl)
    refine ga_aload_n dX2_list_28 rfl ?_
    refine hg_getI 0 grX2_9 dX2_list_29 rfl rfl rfl ?_
    refine ga_if_ne (tgt := 43) dX2_list_32 rfl (fun c_32 => ?_) (fun c_32 => ?_)
    · refine ga_ret (v := none) ?_ rfl (by decide) (by decide) ⟨dX2_list_43, rfl⟩
      exact ⟨τ3, x03, by unfold dfL; rw [tif0 ne]; exact z2, rfl, rfl⟩
    · exact absurd c_32 c_19
  · have e3 : l3 = [] := List.eq_nil_of_length_eq_zero (by omega)
    rw [e3] at z2
    refine ga_aload_n dX2_list_22 rfl ?_
    refine ga_aload_n dX2_list_23 rfl ?_
    refine ga_aload_n dX2_list_24 rfl ?_
    refine hc_VP (T_X2_listClasses τ3 β N D M E (dsg_exc x03 (by decide) hd) (by rw [x03.1 23 (by decide)]; exact hC) z2) fX2_listClasses rfl kX2_listClasses lkX2_33 dX2_list_25 rfl rfl rfl rfl rfl rfl rfl rfl ?_
    rintro v h ⟨τ4, w1, w2, w3, w4⟩
    rw [w3, w4]
    rw [x03.1 23 (by decide), x03.1 36 (by decide), x03.1 37 (by decide)] at w2
    have x04 : exc DC σ τ4 := exc_tr x03 w1 (fun _ z => z) (fun _ z => z)
    revert w2
    generalize clL β (σ.1 23) (σ.1 36) (σ.1 37) 60 = l4
    intro w2
    have hl4 := w2.1
    refine ga_aload_n dX2_list_28 rfl ?_
    refine hg_getI 0 grX2_9 dX2_list_29 rfl rfl rfl ?_
    refine ga_if_ne (tgt := 43) dX2_list_32 rfl (fun c_32 => ?_) (fun c_32 => ?_)
    · have ne : ¬ l4 = [] := fun z => c_32 (by rw [hl4, z]; rfl)
      refine ga_ret (v := none) ?_ rfl (by decide) (by decide) ⟨dX2_list_43, rfl⟩
      exact ⟨τ4, x04, by unfold dfL; rw [tif1 e3, tif0 ne]; exact w2, rfl, rfl⟩
    · have e4 : l4 = [] := List.eq_nil_of_length_eq_zero (by omega)
      rw [e4] at w2
      refine ga_aload_n dX2_list_35 rfl ?_
      refine ga_iconst dX2_list_36 ⟨by decide, by decide⟩ ?_
      refine ga_iconst dX2_list_37 ⟨by decide, by decide⟩ ?_
      refine ga_iconst dX2_list_38 ⟨by decide, by decide⟩ ?_
      refine ga_iconst dX2_list_39 ⟨by decide, by decide⟩ ?_
      refine hc_Vv (T_X2_add 5 0 0 0 τ4 (τ4.1 60 0) rfl (by omega) (by omega)) fX2_add rfl kX2_add lkX2_37 dX2_list_40 rfl rfl rfl rfl rfl rfl rfl rfl ?_
      refine ga_ret (v := none) ?_ rfl (by decide) (by decide) ⟨dX2_list_43, rfl⟩
      refine ⟨_, exc_st (exc_st x04 (by decide)) (by decide), ?_, rfl, rfl⟩
      unfold dfL
      rw [tif1 e3, tif1 e4]
      exact dlh_add w2
