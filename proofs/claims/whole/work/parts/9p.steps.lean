-- one call of both: rounds, tried, tested
def STEP0 (mC mR : ga_M0) (Q : Int → Prop) (σ : ga_S) : Prop := ∃ a τ, Q a ∧ (∃ t, t ≤ 8 ∧ ga_Mt t 0 0 mC [Vr 0] (HP σ) (gis (some (Vi a)) τ) ga_nox) ∧ (∃ t, t ≤ 8 ∧ ga_Mt t 0 0 mR [Vr 63] (HP τ) (fun v h => v = some (Vi a) ∧ ∃ σ2, h = HP σ2 ∧ IvO σ2) ga_nox)
theorem ST_rounds {σ : ga_S} (hI : IvO σ) : STEP0 mX10_rounds mX11_rounds (fun _ => True) σ := by
  obtain ⟨N, D, M, E, h⟩ := id hI
  refine ⟨_, σ, trivial, ⟨0, by decide, T_X10_rounds σ⟩, 0, by decide, (T_X11_rounds σ).mono (fun v h2 w => ⟨by rw [w.1, h.2.2.2.1.1.1], _, w.2, ⟨N, D, M, E, Inv_cd0 h⟩⟩) (fun _ _ z => z)⟩
theorem ST_tried {σ : ga_S} (hI : IvO σ) : STEP0 mX10_tried mX11_tried (fun _ => True) σ := by
  obtain ⟨N, D, M, E, h⟩ := id hI
  refine ⟨_, σ, trivial, ⟨0, by decide, T_X10_tried σ⟩, 0, by decide, (T_X11_tried σ).mono (fun v h2 w => ⟨by rw [w.1, h.2.2.2.1.1.2], _, w.2, ⟨N, D, M, E, Inv_cd0 h⟩⟩) (fun _ _ z => z)⟩
theorem T_X11_tested_0 (σ : ga_S) (h18 : σ.1 63 18 = 0) : ga_Mt 3 0 0 mX11_tested [Vr 63] (HP σ) (gis (some (Vi 0)) (cd0 σ 0)) ga_nox := by
  refine ga_meth [some (Vr 63), none, none, none] rfl rfl (by decide +kernel) (Nat.le_of_ble_eq_true rfl) rfl ?_
  have k18 : (cd0 σ 0).1 63 18 = σ.1 63 18 := rfl
  refine ga_aload_n dX11_tested_0 rfl ?_
  refine ga_iconst dX11_tested_1 ⟨by decide, by decide⟩ ?_
  refine hg_putI 0 gfX11_84 dX11_tested_2 rfl rfl rfl ?_
  refine ga_eqh (h2 := HP (cd0 σ 0)) rfl ?_
  refine ga_aload_n dX11_tested_5 rfl ?_
  refine hg_getI 18 grX11_214 dX11_tested_6 rfl rfl rfl ?_
  refine ga_if_ne (tgt := 14) dX11_tested_9 rfl (fun c_9 => ?_) (fun c_9 => ?_)
  rotate_left
  · refine ga_iconst dX11_tested_12 ⟨by decide, by decide⟩ ?_
    refine ga_ret (v := some _) ?_ rfl (by decide) (by decide) ⟨dX11_tested_13, _, rfl, rfl⟩
    exact ⟨rfl, rfl⟩
  rw [k18] at c_9
  exact absurd h18 c_9
theorem Inv.paw {σ : ga_S} {N D M E : Nat} (h : Inv σ N D M E) (d : Int) (d1 : 0 ≤ d) (d2 : d < D) (e1 : 0 ≤ σ.1 56 d) (e2 : σ.1 56 d < E) : paW σ d := by
  have a1 := h.1.1.1
  have a2 := h.1.2.1
  have hE9 := a2.1.2.2.2.1
  have hN9 := a1.1.2.1
  have hD9 := a1.1.2.2.2.1
  have hk := a1.1.2.2.2.2.1 d d1 d2
  have s1 := (a1.2.2.2.2.1 d d1 d2).2.2
  have s2 := (a2.2.2.2.2.1 (σ.1 56 d) e1 e2).2.2
  refine ⟨hk, ⟨e1, by omega⟩, a2.1.2.2.2.2.1 _ e1 e2, fun k k1 k2 => ?_, ?_⟩
  · have := a1.1.2.2.2.2.2.2 (d * 4 + k) (by omega) (by omega)
    omega
  · rw [s1, s2]
    refine fp_of (σ := σ) (fun x a b => h.lt a b) ?_ (h.lt (by omega) (by omega)) (h.lt (by omega) (by omega))
    rw [h.2.1.2.1 _ hk.1 hk.2]
    exact h.2.1.2.2 _ hk.1 hk.2
theorem mkU_Inv {σ : ga_S} {N D M E : Nat} (h : Inv σ N D M E) : Inv (mkU σ) N D M E :=
  Inv_mv h (fun c hc => (mkU_exc σ).1 c (fun w => hc (by
    rcases List.mem_cons.mp w with q | q
    · rw [q]; decide
    · rw [List.mem_singleton.mp q]; decide))) (mkU_exc σ).2 (fun j _ => rfl)
theorem teP_mkU {σ : ga_S} {N D M E : Nat} : teP (mkU σ) N D M E = teP σ N D M E := rfl
theorem ST_tested {σ : ga_S} (hI : IvO σ) : STEP0 mX10_tested mX11_tested (fun a => a = 0 ∨ a = 1) σ := by
  obtain ⟨N, D, M, E, h⟩ := id hI
  have hk := h.2.2.2.2
  have hN9 := h.1.1.1.1.2.1
  have hD9 := h.1.1.1.1.2.2.2.1
  have hM9 := h.1.2.1.1.2.1
  have hE9 := h.1.2.1.1.2.2.2.1
  have hU := mkU_Inv h
  have P : ∀ d : Int, (0 ≤ d → d < 30 → (-1 ≤ σ.1 56 d ∧ σ.1 56 d < 30) ∧ -1 ≤ σ.1 57 d ∧ σ.1 57 d < 30) ∧ (0 ≤ d → d < 40 → (-1 ≤ σ.1 58 d ∧ σ.1 58 d < 40) ∧ -1 ≤ σ.1 59 d ∧ σ.1 59 d < 40) := by
    intro d
    by_cases q : σ.1 63 18 = 0
    · have k := hk.2.1 q
      exact ⟨fun d1 d2 => by have := k.1 d d1 d2; omega, fun d1 d2 => by have := k.2 d d1 d2; omega⟩
    · obtain ⟨k1, k2, p1, p2, p3, p4⟩ := hk.2.2 q
      exact ⟨fun d1 d2 => by have := k1 d d1 d2; have := p1 d d1 d2; have := p2 d d1 d2; omega, fun d1 d2 => by have := k2 d d1 d2; have := p3 d d1 d2; have := p4 d d1 d2; omega⟩
  have C := T_X10_tested σ σ N D M E h.dsb (fun d d1 d2 => ((P d).1 d1 (by omega)).1) (fun d d1 d2 => ((P d).1 d1 (by omega)).2) (fun d d1 d2 => ((P d).2 d1 (by omega)).1) (fun d d1 d2 => ((P d).2 d1 (by omega)).2) (fun hp d d1 d2 g => by
    have := (hp d d1 d2 g).1
    by_cases q : σ.1 63 18 = 0
    · exact absurd ((hk.2.1 q).1 d d1 (by omega)).1 this
    · obtain ⟨k1, k2, p1, p2, p3, p4⟩ := hk.2.2 q
      have e := (k1 d d1 (by omega)).1
      have := p1 d d1 (by omega)
      exact h.paw d d1 d2 (by omega) (by omega))
  refine ⟨_, mkU σ, tv01, ⟨5, by decide, C⟩, 3, by decide, ?_⟩
  by_cases q : σ.1 63 18 = 0
  · refine (T_X11_tested_0 (mkU σ) q).mono (fun v h2 w => ⟨?_, _, w.2, ⟨N, D, M, E, Inv_cd0 hU⟩⟩) (fun _ _ z => z)
    rw [w.1, tvz]
    intro z
    exact hk.1.mp z.1 q
  · obtain ⟨k1, k2, p1, p2, p3, p4⟩ := hk.2.2 q
    have hm := te_mn (τ := mkU σ) (mkU_dsg h.dsb) h.wf h.2.1.2.1 (hk.1.mpr q) q (fun d d1 d2 => (k1 d d1 d2).1) (fun d d1 d2 => (k1 d d1 d2).2) k2 ⟨p1, p2, p3, p4⟩
    refine (T_X11_tested (mkU σ) N D M E hU.wf hU.fp (fun k i1 i2 => ?_) (fun d d1 d2 => ?_)).mono (fun v h2 w => ?_) (fun _ _ z => z)
    · show -1 ≤ σ.1 79 k ∧ σ.1 79 k < 40
      have := p3 k i1 (by omega)
      omega
    · show -1 ≤ σ.1 78 d ∧ σ.1 78 d < E
      have := p1 d d1 (by omega)
      omega
    · obtain ⟨τ, x1, x2, x3, x4, x5⟩ := w
      refine ⟨?_, τ, x5, ⟨N, D, M, E, Inv_mv hU (fun c hc => x1.1 c (fun w => hc ?_)) x1.2 (fun j hj => x3 j (by omega) (by omega))⟩⟩
      · rw [x4, teP_mkU, tv_congr hm]
      · rcases List.mem_cons.mp w with q | w
        · rw [q]; decide
        · rcases List.mem_cons.mp w with q | w
          · rw [q]; decide
          · rw [List.mem_singleton.mp w]; decide
