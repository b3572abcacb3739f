-- the used nets, marked
theorem agF_used {i : Int} {cnt port kind gone pins old : Int → Int} {sizes : Int → UInt64} {β : ga_S} {N D : Nat} (h : agF i cnt port kind gone pins sizes β N D) : agU i (usedF (cnt 0) port gone pins old (4 * cnt 3)) β N := by
  obtain ⟨⟨hcN, hN2, hcD, hD2, hkd, hsz, hpin⟩, hbN, hbD, hport, hdev, hpb⟩ := h
  intro n n1 n2
  unfold usedF
  rw [if_pos (by omega), hcD]
  unfold bU
  rw [show (40 * i + n) % 40 = n by omega, show (40 * i + n) / 40 = i by omega, hbN, ← hport n n1 n2]
  have key : (∃ z : Int, 0 ≤ z ∧ z < 4 * D ∧ gone (z / 4) = 0 ∧ pins z = n) ↔ 0 < allB β i n := by
    unfold allB
    rw [hbD, Int.toNat_natCast]
    constructor
    · rintro ⟨z, z1, z2, z3, z4⟩
      refine sz_ge1 (P := fun w => β.1 68 (30 * i + w / 4) = 0 ∧ β.1 69 (120 * i + w) = n) (i := z.toNat) (by omega) ?_
      rw [Int.toNat_of_nonneg z1, ← (hdev (z / 4) (by omega) (by omega)).2.1, ← hpb z z1 z2]
      exact ⟨z3, z4⟩
    · intro q
      obtain ⟨z, z1, z2, z3⟩ := sz_pos (P := fun w => β.1 68 (30 * i + w / 4) = 0 ∧ β.1 69 (120 * i + w) = n) q
      refine ⟨z, by omega, by omega, ?_, ?_⟩
      · rw [(hdev ((z : Int) / 4) (by omega) (by omega)).2.1]; exact z2
      · rw [hpb z (by omega) (by omega)]; exact z3
  constructor
  · intro q
    have q2 : usedTo port gone pins (4 * D) n := tv_ne0.mp q
    exact ⟨n2, q2.imp id key.mp⟩
  · intro q
    have q2 : usedTo port gone pins (4 * D) n := q.2.imp id key.mpr
    rw [tv1 q2]
    decide
/-- both sides and the groups agree -/
def dsb (σ β : ga_S) (N D M E : Nat) : Prop := agS_2 σ β N D ∧ agS_9 σ β M E ∧ agG (σ.1 17) β
theorem dsb_exc {L : List Nat} {σ τ β : ga_S} {N D M E : Nat} (h : exc L σ τ) (hL : ∀ c, c ≤ 17 → c ∉ [4, 11] → c ∉ L) (g : dsb σ β N D M E) : dsb τ β N D M E := by
  unfold dsb agS_2 agS_9 at g ⊢
  rw [h.1 2 (hL 2 (by decide) (by decide)), h.1 3 (hL 3 (by decide) (by decide)), h.1 5 (hL 5 (by decide) (by decide)), h.1 7 (hL 7 (by decide) (by decide)), h.1 8 (hL 8 (by decide) (by decide)), h.1 9 (hL 9 (by decide) (by decide)), h.1 10 (hL 10 (by decide) (by decide)), h.1 12 (hL 12 (by decide) (by decide)), h.1 14 (hL 14 (by decide) (by decide)), h.1 15 (hL 15 (by decide) (by decide)), h.1 17 (hL 17 (by decide) (by decide)), h.2]
  exact g
noncomputable def mkU (σ : ga_S) : ga_S := stI (stI σ 4 (usedS 2 σ)) 11 (usedS 9 σ)
theorem mkU_exc (σ : ga_S) : exc [4, 11] σ (mkU σ) := exc_st (exc_st exc_r (by decide)) (by decide)
theorem mkU_dsg {σ β : ga_S} {N D M E : Nat} (h : dsb σ β N D M E) : dsg (mkU σ) β N D M E := by
  obtain ⟨h1, h2, h3⟩ := dsb_exc (mkU_exc σ) (fun c _ hc => hc) h
  exact ⟨h1, h2, h3, agF_used (i := 0) h.1, agF_used (i := 1) h.2.1⟩
theorem T_X1_mark (σ β : ga_S) (N D M E : Nat) (h : dsb σ β N D M E) : ga_Mt 2 0 0 mX1_markUsedNets [Vr 1] (HP σ) (gis none (mkU σ)) ga_nox :=
  T_X1_markUsedNets σ N D M E h.1.1.1 h.1.1.2.1 h.1.1.2.2.1 h.1.1.2.2.2.1 h.1.1.2.2.2.2.2.2 h.2.1.1.1 h.2.1.1.2.1 h.2.1.1.2.2.1 h.2.1.1.2.2.2.1 h.2.1.1.2.2.2.2.2.2
theorem T_X10_tested (σ β : ga_S) (N D M E : Nat) (h : dsb σ β N D M E) (p56 : ∀ d : Int, 0 ≤ d → d < D → -1 ≤ σ.1 56 d ∧ σ.1 56 d < 30) (p57 : ∀ d : Int, 0 ≤ d → d < E → -1 ≤ σ.1 57 d ∧ σ.1 57 d < 30) (p58 : ∀ d : Int, 0 ≤ d → d < N → -1 ≤ σ.1 58 d ∧ σ.1 58 d < 40) (p59 : ∀ d : Int, 0 ≤ d → d < M → -1 ≤ σ.1 59 d ∧ σ.1 59 d < 40) (hw : ppP (σ.1 7) (σ.1 14) (σ.1 56) D → ∀ d : Int, 0 ≤ d → d < D → σ.1 7 d = 0 → paW σ d) : ga_Mt 5 0 0 mX10_tested [Vr 0] (HP σ) (gis (some (Vi (tv (mnP (mkU σ) N D M E)))) (mkU σ)) ga_nox := by
  refine ga_meth [some (Vr 0)] rfl rfl (by decide +kernel) (Nat.le_of_ble_eq_true rfl) rfl ?_
  refine ga_aload_n dX10_tested_0 rfl ?_
  refine hg_getR grX10_10 dX10_tested_1 rfl rfl ?_
  refine hc_Vv (T_X1_mark σ β N D M E h) fX1_markUsedNets rfl kX1_markUsedNets lkX10_170 dX10_tested_4 rfl rfl rfl rfl rfl rfl rfl rfl ?_
  refine ga_aload_n dX10_tested_7 rfl ?_
  refine hg_getR grX10_40 dX10_tested_8 rfl rfl ?_
  refine ga_aload_n dX10_tested_11 rfl ?_
  refine hg_getR grX10_10 dX10_tested_12 rfl rfl ?_
  refine hc_V (T_X5_isMatchNow (mkU σ) N D M E h.1.1.1 h.1.1.2.1 h.1.1.2.2.1 h.1.1.2.2.2.1 h.2.1.1.1 h.2.1.1.2.1 h.2.1.1.2.2.1 h.2.1.1.2.2.2.1 p56 p57 p58 p59 hw) fX5_isMatchNow rfl kX5_isMatchNow lkX10_224 dX10_tested_15 rfl rfl rfl rfl rfl rfl rfl rfl ?_
  refine ga_ret (v := some _) ?_ rfl (by decide) (by decide) ⟨dX10_tested_18, _, rfl, tv_nb⟩
  exact ⟨rfl, rfl⟩
