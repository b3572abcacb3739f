-- Differences: classes, and all of them
noncomputable def clL (β : ga_S) (C n0 n1 : Int → Int) : Nat → List d4
  | 0 => []
  | e + 1 => clL β C n0 n1 e ++ tif ((bL β e ∧ ∀ u : Int, 0 ≤ u → u < e → bL β u → C u ≠ C e) ∧ n0 (C e) ≠ n1 (C e)) [(4, (e : Int) % 30, n0 (C e), n1 (C e))] []
theorem clL_s (β : ga_S) (C n0 n1 : Int → Int) (e : Nat) : clL β C n0 n1 (e + 1) = clL β C n0 n1 e ++ tif ((bL β e ∧ ∀ u : Int, 0 ≤ u → u < e → bL β u → C u ≠ C e) ∧ n0 (C e) ≠ n1 (C e)) [(4, (e : Int) % 30, n0 (C e), n1 (C e))] [] := rfl
theorem clL_len (β : ga_S) (C n0 n1 : Int → Int) : ∀ k : Nat, (clL β C n0 n1 k).length ≤ k
  | 0 => Nat.le_refl _
  | k + 1 => by
    rw [clL_s, List.length_append]
    have := clL_len β C n0 n1 k
    by_cases q : (bL β k ∧ ∀ u : Int, 0 ≤ u → u < k → bL β u → C u ≠ C k) ∧ n0 (C k) ≠ n1 (C k)
    · rw [tif1 q]; show _ + 1 ≤ _; omega
    · rw [tif0 q]; show _ + 0 ≤ _; omega
def lsd (β : ga_S) (C s : Int → Int) (e : Nat) : Prop := ∀ p : Int, 0 ≤ p → p < 60 → (s p = 0 ↔ ∀ u : Int, 0 ≤ u → u < e → bL β u → C u ≠ p)
theorem clL_no {β : ga_S} {C n0 n1 : Int → Int} {e : Nat} (h : ¬ bL β e) : clL β C n0 n1 (e + 1) = clL β C n0 n1 e := by rw [clL_s, tif0 (fun z => h z.1.1), List.append_nil]
theorem lsd_no {β : ga_S} {C s : Int → Int} {e : Nat} (h : ¬ bL β e) (g : lsd β C s e) : lsd β C s (e + 1) := by
  intro p a b
  rw [g p a b]
  refine ⟨fun z u c d f => ?_, fun z u c d f => z u c (by omega) f⟩
  by_cases q : u = e
  · exact absurd f (by rw [q]; exact h)
  · exact z u c (by omega) f
theorem lsd_yes {β : ga_S} {C s : Int → Int} {e : Nat} (h : bL β e) (g : lsd β C s e) : lsd β C (ga_up s (C e) 1) (e + 1) := by
  intro p a b
  by_cases q : p = C e
  · rw [q, ga_up_at]
    exact ⟨fun z => absurd z (by decide), fun z => absurd rfl (z e (by omega) (by omega) h)⟩
  · rw [ga_up_ne _ _ q, g p a b]
    refine ⟨fun z u c d f => ?_, fun z u c d f => z u c (by omega) f⟩
    by_cases q2 : u = e
    · rw [q2]; exact fun w => q w.symm
    · exact z u c (by omega) f
theorem cl_skip {β : ga_S} {C n0 n1 s : Int → Int} {e : Nat} (g : lsd β C s e) : ∀ r : Nat, (∀ z : Nat, e ≤ z → z < e + r → ¬ bL β z) → clL β C n0 n1 (e + r) = clL β C n0 n1 e ∧ lsd β C s (e + r)
  | 0, _ => ⟨rfl, g⟩
  | r + 1, h => by
    have := cl_skip (n0 := n0) (n1 := n1) g r (fun z a b => h z a (by omega))
    have q := h (e + r) (by omega) (by omega)
    rw [← Nat.add_assoc, clL_no q]
    exact ⟨this.1, lsd_no q this.2⟩
theorem W_listClasses_2 {P : ga_Po} (σ β : ga_S) (N D : Nat) (ha : agS_2 σ β N D) (hC : ∀ x : Int, 0 ≤ x → x < 60 → bL β x → 0 ≤ σ.1 23 x ∧ σ.1 23 x < 60) (y4 y5 : Option ga_V) (τ0 : ga_S) (hx0 : exc DC σ τ0) (hD : dlh (τ0.1 61) (τ0.1 60 0) (clL β (σ.1 23) (σ.1 36) (σ.1 37) (30 * 0))) (hs : lsd β (σ.1 23) (τ0.1 62) (30 * 0))
    (K : ∀ τ y4 y5, exc DC σ τ → dlh (τ.1 61) (τ.1 60 0) (clL β (σ.1 23) (σ.1 36) (σ.1 37) (30 * (0 + 1))) → lsd β (σ.1 23) (τ.1 62) (30 * (0 + 1)) → ga_W 2 0 0 0 0 mX2_listClasses P ga_nox 23 [some (Vr 60), some (Vr 1), some (Vr 21), some (Vi 1), y4, y5] [] (HP τ)) : ga_W 2 0 0 0 0 mX2_listClasses P ga_nox 23 [some (Vr 60), some (Vr 1), some (Vr 21), some (Vi 0), y4, y5] [] (HP τ0) := by
  have hDD := ha.1.2.2.1
  have hD2 := ha.1.2.2.2.1
  refine ga_iload_n dX2_listClasses_23 rfl ?_
  refine ga_iconst dX2_listClasses_24 ⟨by decide, by decide⟩ ?_
  refine ga_icmp_ge (tgt := 85) dX2_listClasses_25 rfl (fun c_25 => ?_) (fun c_25 => ?_)
  · omega
  · refine ga_aload_n dX2_listClasses_28 rfl ?_
    refine ga_iload_n dX2_listClasses_29 rfl ?_
    refine hc_V (T_X1_sideOf0 τ0) fX1_sideOf rfl kX1_sideOf lkX2_66 dX2_listClasses_30 rfl rfl rfl rfl rfl rfl rfl rfl ?_
    refine ga_astore (lv2 := [_, _, _, _, _, _]) dX2_listClasses_33 (by decide) rfl rfl ?_
    refine ga_iconst dX2_listClasses_35 ⟨by decide, by decide⟩ ?_
    refine ga_istore (lv2 := [_, _, _, _, _, _]) dX2_listClasses_36 (by decide) rfl rfl ?_
    refine (ga_loop D (fun d => ∀ τ, exc DC σ τ → dlh (τ.1 61) (τ.1 60 0) (clL β (σ.1 23) (σ.1 36) (σ.1 37) (30 * 0 + d)) → lsd β (σ.1 23) (τ.1 62) (30 * 0 + d) → ga_W 2 0 0 0 0 mX2_listClasses P ga_nox 38 [some (Vr 60), some (Vr 1), some (Vr 21), some (Vi 0), some (Vr 2), some (Vi (d : Int))] [] (HP τ)) ?_ ?_ 0 (Nat.zero_le _) τ0 hx0 hD hs : _)
    · intro τ hx h1 h2
      have e3 : τ.1 2 3 = D := by rw [hx.1 2 (by decide)]; exact hDD
      have sk := cl_skip (n0 := σ.1 36) (n1 := σ.1 37) h2 (30 - D) (fun z a b => by
        have := agF_dead ha (d := (z : Int) - 30 * 0) (by omega) (by omega)
        rw [show 30 * 0 + ((z : Int) - 30 * 0) = z by omega] at this
        exact this)
      rw [show 30 * 0 + D + (30 - D) = 30 * (0 + 1) by omega] at sk
      refine ga_iload dX2_listClasses_38 rfl ?_
      refine ga_aload dX2_listClasses_40 rfl ?_
      refine hg_getI 3 grX2_70 dX2_listClasses_42 rfl rfl rfl ?_
      refine ga_icmp_ge (tgt := 79) dX2_listClasses_45 rfl (fun c_45 => ?_) (fun c_45 => ?_)
      · refine ga_iinc (z := 1) (lv2 := [_, _, _, _, _, _]) dX2_listClasses_79 (by decide) rfl rfl (by omega) (⟨by omega, by omega⟩) rfl ?_
        refine ga_goto (tgt := 23) dX2_listClasses_82 rfl ?_
        exact K τ _ _ hx (by rw [sk.1]; exact h1) sk.2
      · omega
    · intro d hd k τ hx h1 h2
      have e3 : τ.1 2 3 = D := by rw [hx.1 2 (by decide)]; exact hDD
      have e7 := hx.1 7 (by decide)
      have e23 := hx.1 23 (by decide)
      have e36 := hx.1 36 (by decide)
      have e37 := hx.1 37 (by decide)
      have hl := agF_live ha (d := (d : Int)) (by omega) (by omega)
      rw [show 30 * 0 + (d : Int) = ((30 * 0 + d : Nat) : Int) by omega] at hl
      refine ga_iload dX2_listClasses_38 rfl ?_
      refine ga_aload dX2_listClasses_40 rfl ?_
      refine hg_getI 3 grX2_70 dX2_listClasses_42 rfl rfl rfl ?_
      refine ga_icmp_ge (tgt := 79) dX2_listClasses_45 rfl (fun c_45 => ?_) (fun c_45 => ?_)
      · omega
      · refine ga_aload dX2_listClasses_48 rfl ?_
        refine hg_getR grX2_73 dX2_listClasses_50 rfl rfl ?_
        refine ga_iload dX2_listClasses_53 rfl ?_
        refine hg_zald dX2_listClasses_55 rfl (by omega) (by omega) ?_
        refine ga_if_ne (tgt := 73) dX2_listClasses_56 rfl (fun c_56 => ?_) (fun c_56 => ?_)
        · rw [e7] at c_56
          have nb : ¬ bL β ((30 * 0 + d : Nat) : Int) := fun z => c_56 (hl.mp z)
          refine ga_iinc (z := ((d + 1 : Nat) : Int)) (lv2 := [_, _, _, _, _, _]) dX2_listClasses_73 (by decide) rfl rfl (by omega) (⟨by omega, by omega⟩) rfl ?_
          refine ga_goto (tgt := 38) dX2_listClasses_76 rfl ?_
          exact k τ hx (by rw [← Nat.add_assoc, clL_no nb]; exact h1) (lsd_no nb h2)
        · rw [e7] at c_56
          have yb := hl.mpr c_56
          have rc := hC _ (by omega) (by omega) yb
          have len := clL_len β (σ.1 23) (σ.1 36) (σ.1 37) (30 * 0 + d)
          refine ga_aload_n dX2_listClasses_59 rfl ?_
          refine ga_aload_n dX2_listClasses_60 rfl ?_
          refine ga_aload_n dX2_listClasses_61 rfl ?_
          refine ga_iload_n dX2_listClasses_62 rfl ?_
          refine ga_iload dX2_listClasses_63 rfl ?_
          refine hc_V (T_X0_classOf 0 d τ (by decide) (by decide) (by omega) (by omega) (by omega)) fX0_classOf rfl kX0_classOf lkX2_76 dX2_listClasses_65 rfl rfl rfl rfl rfl rfl rfl rfl ?_
          rw [e23, show 0 * 30 + (d : Int) = ((30 * 0 + d : Nat) : Int) by omega]
          refine ga_iload dX2_listClasses_68 rfl ?_
          refine hc_VP (T_X2_listClass (σ.1 23 ((30 * 0 + d : Nat) : Int)) d τ _ h1 (by omega) rc.1 rc.2) fX2_listClass rfl kX2_listClass lkX2_82 dX2_listClasses_70 rfl rfl rfl rfl rfl rfl rfl rfl ?_
          rintro v h ⟨υ, x1, x2, x3, x4, x5⟩
          rw [x4, x5]
          refine ga_iinc (z := ((d + 1 : Nat) : Int)) (lv2 := [_, _, _, _, _, _]) dX2_listClasses_73 (by decide) rfl rfl (by omega) (⟨by omega, by omega⟩) rfl ?_
          refine ga_goto (tgt := 38) dX2_listClasses_76 rfl ?_
          refine k υ (exc_tr hx x1 (fun _ z => z) (fun _ z => z)) ?_ ?_
          · rw [← Nat.add_assoc, clL_s]
            rw [e36, e37, h2 _ rc.1 rc.2] at x2
            have e9 : tif ((∀ u : Int, 0 ≤ u → u < ((30 * 0 + d : Nat) : Int) → bL β u → σ.1 23 u ≠ σ.1 23 ((30 * 0 + d : Nat) : Int)) ∧ σ.1 36 (σ.1 23 ((30 * 0 + d : Nat) : Int)) ≠ σ.1 37 (σ.1 23 ((30 * 0 + d : Nat) : Int))) [((4 : Int), (d : Int), σ.1 36 (σ.1 23 ((30 * 0 + d : Nat) : Int)), σ.1 37 (σ.1 23 ((30 * 0 + d : Nat) : Int)))] [] = tif ((bL β ((30 * 0 + d : Nat) : Int) ∧ ∀ u : Int, 0 ≤ u → u < ((30 * 0 + d : Nat) : Int) → bL β u → σ.1 23 u ≠ σ.1 23 ((30 * 0 + d : Nat) : Int)) ∧ σ.1 36 (σ.1 23 ((30 * 0 + d : Nat) : Int)) ≠ σ.1 37 (σ.1 23 ((30 * 0 + d : Nat) : Int))) [((4 : Int), ((30 * 0 + d : Nat) : Int) % 30, σ.1 36 (σ.1 23 ((30 * 0 + d : Nat) : Int)), σ.1 37 (σ.1 23 ((30 * 0 + d : Nat) : Int)))] [] := by
              rw [show ((30 * 0 + d : Nat) : Int) % 30 = d by omega]
              by_cases q : (∀ u : Int, 0 ≤ u → u < ((30 * 0 + d : Nat) : Int) → bL β u → σ.1 23 u ≠ σ.1 23 ((30 * 0 + d : Nat) : Int)) ∧ σ.1 36 (σ.1 23 ((30 * 0 + d : Nat) : Int)) ≠ σ.1 37 (σ.1 23 ((30 * 0 + d : Nat) : Int))
              · rw [tif1 q, tif1 ⟨⟨yb, q.1⟩, q.2⟩]
              · rw [tif0 q, tif0 (fun z => q ⟨z.1.2, z.2⟩)]
            rw [← e9]
            exact x2
          · rw [← Nat.add_assoc, x3]
            exact lsd_yes yb h2
theorem W_listClasses_9 {P : ga_Po} (σ β : ga_S) (N D : Nat) (ha : agS_9 σ β N D) (hC : ∀ x : Int, 0 ≤ x → x < 60 → bL β x → 0 ≤ σ.1 23 x ∧ σ.1 23 x < 60) (y4 y5 : Option ga_V) (τ0 : ga_S) (hx0 : exc DC σ τ0) (hD : dlh (τ0.1 61) (τ0.1 60 0) (clL β (σ.1 23) (σ.1 36) (σ.1 37) (30 * 1))) (hs : lsd β (σ.1 23) (τ0.1 62) (30 * 1))
    (K : ∀ τ y4 y5, exc DC σ τ → dlh (τ.1 61) (τ.1 60 0) (clL β (σ.1 23) (σ.1 36) (σ.1 37) (30 * (1 + 1))) → lsd β (σ.1 23) (τ.1 62) (30 * (1 + 1)) → ga_W 2 0 0 0 0 mX2_listClasses P ga_nox 23 [some (Vr 60), some (Vr 1), some (Vr 21), some (Vi 2), y4, y5] [] (HP τ)) : ga_W 2 0 0 0 0 mX2_listClasses P ga_nox 23 [some (Vr 60), some (Vr 1), some (Vr 21), some (Vi 1), y4, y5] [] (HP τ0) := by
  have hDD := ha.1.2.2.1
  have hD2 := ha.1.2.2.2.1
  refine ga_iload_n dX2_listClasses_23 rfl ?_
  refine ga_iconst dX2_listClasses_24 ⟨by decide, by decide⟩ ?_
  refine ga_icmp_ge (tgt := 85) dX2_listClasses_25 rfl (fun c_25 => ?_) (fun c_25 => ?_)
  · omega
  · refine ga_aload_n dX2_listClasses_28 rfl ?_
    refine ga_iload_n dX2_listClasses_29 rfl ?_
    refine hc_V (T_X1_sideOf1_1 τ0) fX1_sideOf rfl kX1_sideOf lkX2_66 dX2_listClasses_30 rfl rfl rfl rfl rfl rfl rfl rfl ?_
    refine ga_astore (lv2 := [_, _, _, _, _, _]) dX2_listClasses_33 (by decide) rfl rfl ?_
    refine ga_iconst dX2_listClasses_35 ⟨by decide, by decide⟩ ?_
    refine ga_istore (lv2 := [_, _, _, _, _, _]) dX2_listClasses_36 (by decide) rfl rfl ?_
    refine (ga_loop D (fun d => ∀ τ, exc DC σ τ → dlh (τ.1 61) (τ.1 60 0) (clL β (σ.1 23) (σ.1 36) (σ.1 37) (30 * 1 + d)) → lsd β (σ.1 23) (τ.1 62) (30 * 1 + d) → ga_W 2 0 0 0 0 mX2_listClasses P ga_nox 38 [some (Vr 60), some (Vr 1), some (Vr 21), some (Vi 1), some (Vr 9), some (Vi (d : Int))] [] (HP τ)) ?_ ?_ 0 (Nat.zero_le _) τ0 hx0 hD hs : _)
    · intro τ hx h1 h2
      have e3 : τ.1 9 3 = D := by rw [hx.1 9 (by decide)]; exact hDD
      have sk := cl_skip (n0 := σ.1 36) (n1 := σ.1 37) h2 (30 - D) (fun z a b => by
        have := agF_dead ha (d := (z : Int) - 30 * 1) (by omega) (by omega)
        rw [show 30 * 1 + ((z : Int) - 30 * 1) = z by omega] at this
        exact this)
      rw [show 30 * 1 + D + (30 - D) = 30 * (1 + 1) by omega] at sk
      refine ga_iload dX2_listClasses_38 rfl ?_
      refine ga_aload dX2_listClasses_40 rfl ?_
      refine hg_getI 3 grX2_70 dX2_listClasses_42 rfl rfl rfl ?_
      refine ga_icmp_ge (tgt := 79) dX2_listClasses_45 rfl (fun c_45 => ?_) (fun c_45 => ?_)
      · refine ga_iinc (z := 2) (lv2 := [_, _, _, _, _, _]) dX2_listClasses_79 (by decide) rfl rfl (by omega) (⟨by omega, by omega⟩) rfl ?_
        refine ga_goto (tgt := 23) dX2_listClasses_82 rfl ?_
        exact K τ _ _ hx (by rw [sk.1]; exact h1) sk.2
      · omega
    · intro d hd k τ hx h1 h2
      have e3 : τ.1 9 3 = D := by rw [hx.1 9 (by decide)]; exact hDD
      have e7 := hx.1 14 (by decide)
      have e23 := hx.1 23 (by decide)
      have e36 := hx.1 36 (by decide)
      have e37 := hx.1 37 (by decide)
      have hl := agF_live ha (d := (d : Int)) (by omega) (by omega)
      rw [show 30 * 1 + (d : Int) = ((30 * 1 + d : Nat) : Int) by omega] at hl
      refine ga_iload dX2_listClasses_38 rfl ?_
      refine ga_aload dX2_listClasses_40 rfl ?_
      refine hg_getI 3 grX2_70 dX2_listClasses_42 rfl rfl rfl ?_
      refine ga_icmp_ge (tgt := 79) dX2_listClasses_45 rfl (fun c_45 => ?_) (fun c_45 => ?_)
      · omega
      · refine ga_aload dX2_listClasses_48 rfl ?_
        refine hg_getR grX2_73 dX2_listClasses_50 rfl rfl ?_
        refine ga_iload dX2_listClasses_53 rfl ?_
        refine hg_zald dX2_listClasses_55 rfl (by omega) (by omega) ?_
        refine ga_if_ne (tgt := 73) dX2_listClasses_56 rfl (fun c_56 => ?_) (fun c_56 => ?_)
        · rw [e7] at c_56
          have nb : ¬ bL β ((30 * 1 + d : Nat) : Int) := fun z => c_56 (hl.mp z)
          refine ga_iinc (z := ((d + 1 : Nat) : Int)) (lv2 := [_, _, _, _, _, _]) dX2_listClasses_73 (by decide) rfl rfl (by omega) (⟨by omega, by omega⟩) rfl ?_
          refine ga_goto (tgt := 38) dX2_listClasses_76 rfl ?_
          exact k τ hx (by rw [← Nat.add_assoc, clL_no nb]; exact h1) (lsd_no nb h2)
        · rw [e7] at c_56
          have yb := hl.mpr c_56
          have rc := hC _ (by omega) (by omega) yb
          have len := clL_len β (σ.1 23) (σ.1 36) (σ.1 37) (30 * 1 + d)
          refine ga_aload_n dX2_listClasses_59 rfl ?_
          refine ga_aload_n dX2_listClasses_60 rfl ?_
          refine ga_aload_n dX2_listClasses_61 rfl ?_
          refine ga_iload_n dX2_listClasses_62 rfl ?_
          refine ga_iload dX2_listClasses_63 rfl ?_
          refine hc_V (T_X0_classOf 1 d τ (by decide) (by decide) (by omega) (by omega) (by omega)) fX0_classOf rfl kX0_classOf lkX2_76 dX2_listClasses_65 rfl rfl rfl rfl rfl rfl rfl rfl ?_
          rw [e23, show 1 * 30 + (d : Int) = ((30 * 1 + d : Nat) : Int) by omega]
          refine ga_iload dX2_listClasses_68 rfl ?_
          refine hc_VP (T_X2_listClass (σ.1 23 ((30 * 1 + d : Nat) : Int)) d τ _ h1 (by omega) rc.1 rc.2) fX2_listClass rfl kX2_listClass lkX2_82 dX2_listClasses_70 rfl rfl rfl rfl rfl rfl rfl rfl ?_
          rintro v h ⟨υ, x1, x2, x3, x4, x5⟩
          rw [x4, x5]
          refine ga_iinc (z := ((d + 1 : Nat) : Int)) (lv2 := [_, _, _, _, _, _]) dX2_listClasses_73 (by decide) rfl rfl (by omega) (⟨by omega, by omega⟩) rfl ?_
          refine ga_goto (tgt := 38) dX2_listClasses_76 rfl ?_
          refine k υ (exc_tr hx x1 (fun _ z => z) (fun _ z => z)) ?_ ?_
          · rw [← Nat.add_assoc, clL_s]
            rw [e36, e37, h2 _ rc.1 rc.2] at x2
            have e9 : tif ((∀ u : Int, 0 ≤ u → u < ((30 * 1 + d : Nat) : Int) → bL β u → σ.1 23 u ≠ σ.1 23 ((30 * 1 + d : Nat) : Int)) ∧ σ.1 36 (σ.1 23 ((30 * 1 + d : Nat) : Int)) ≠ σ.1 37 (σ.1 23 ((30 * 1 + d : Nat) : Int))) [((4 : Int), (d : Int), σ.1 36 (σ.1 23 ((30 * 1 + d : Nat) : Int)), σ.1 37 (σ.1 23 ((30 * 1 + d : Nat) : Int)))] [] = tif ((bL β ((30 * 1 + d : Nat) : Int) ∧ ∀ u : Int, 0 ≤ u → u < ((30 * 1 + d : Nat) : Int) → bL β u → σ.1 23 u ≠ σ.1 23 ((30 * 1 + d : Nat) : Int)) ∧ σ.1 36 (σ.1 23 ((30 * 1 + d : Nat) : Int)) ≠ σ.1 37 (σ.1 23 ((30 * 1 + d : Nat) : Int))) [((4 : Int), ((30 * 1 + d : Nat) : Int) % 30, σ.1 36 (σ.1 23 ((30 * 1 + d : Nat) : Int)), σ.1 37 (σ.1 23 ((30 * 1 + d : Nat) : Int)))] [] := by
              rw [show ((30 * 1 + d : Nat) : Int) % 30 = d by omega]
              by_cases q : (∀ u : Int, 0 ≤ u → u < ((30 * 1 + d : Nat) : Int) → bL β u → σ.1 23 u ≠ σ.1 23 ((30 * 1 + d : Nat) : Int)) ∧ σ.1 36 (σ.1 23 ((30 * 1 + d : Nat) : Int)) ≠ σ.1 37 (σ.1 23 ((30 * 1 + d : Nat) : Int))
              · rw [tif1 q, tif1 ⟨⟨yb, q.1⟩, q.2⟩]
              · rw [tif0 q, tif0 (fun z => q ⟨z.1.2, z.2⟩)]
            rw [← e9]
            exact x2
          · rw [← Nat.add_assoc, x3]
            exact lsd_yes yb h2
theorem T_X2_listClasses (σ β : ga_S) (N D M E : Nat) (hd : dsg σ β N D M E) (hC : ∀ x : Int, 0 ≤ x → x < 60 → bL β x → 0 ≤ σ.1 23 x ∧ σ.1 23 x < 60) (h0 : dlh (σ.1 61) (σ.1 60 0) []) : ga_Mt 2 0 0 mX2_listClasses [Vr 60, Vr 1, Vr 21] (HP σ) (fun v h => ∃ τ, exc DC σ τ ∧ dlh (τ.1 61) (τ.1 60 0) (clL β (σ.1 23) (σ.1 36) (σ.1 37) 60) ∧ v = none ∧ h = HP τ) ga_nox := by
  obtain ⟨h1, h2, _⟩ := hd
  refine ga_meth [some (Vr 60), some (Vr 1), some (Vr 21), none, none, none] rfl rfl (by decide +kernel) (Nat.le_of_ble_eq_true rfl) rfl ?_
  refine ga_iconst dX2_listClasses_0 ⟨by decide, by decide⟩ ?_
  refine ga_istore_n (lv2 := [_, _, _, _, _, _]) dX2_listClasses_1 (by decide) rfl rfl ?_
  refine (ga_loop 60 (fun i => ∀ τ, exc DC σ τ → dlh (τ.1 61) (τ.1 60 0) [] → (∀ p : Int, 0 ≤ p → p < i → τ.1 62 p = 0) → ga_W 2 0 0 0 0 mX2_listClasses (fun v h => ∃ τ, exc DC σ τ ∧ dlh (τ.1 61) (τ.1 60 0) (clL β (σ.1 23) (σ.1 36) (σ.1 37) 60) ∧ v = none ∧ h = HP τ) ga_nox 2 [some (Vr 60), some (Vr 1), some (Vr 21), some (Vi (i : Int)), none, none] [] (HP τ)) ?_ ?_ 0 (Nat.zero_le _) σ exc_r h0 (fun p a b => by omega) : _)
  · intro τ hx q1 q2
    refine ga_iload_n dX2_listClasses_2 rfl ?_
    refine ga_bipush dX2_listClasses_3 ⟨by decide, by decide⟩ (by decide) ?_
    refine ga_icmp_ge (tgt := 21) dX2_listClasses_5 rfl (fun c_5 => ?_) (fun c_5 => ?_)
    · refine ga_iconst dX2_listClasses_21 ⟨by decide, by decide⟩ ?_
      refine ga_istore_n (lv2 := [_, _, _, _, _, _]) dX2_listClasses_22 (by decide) rfl rfl ?_
      refine W_listClasses_2 σ β N D h1 hC _ _ τ hx q1 (fun p a b => ⟨fun _ u c d => by omega, fun _ => q2 p a (by omega)⟩) ?_
      intro τ y4 y5 hx e1 e2
      refine W_listClasses_9 σ β M E h2 hC _ _ τ hx e1 e2 ?_
      intro τ y4 y5 hx e1 e2
      refine ga_iload_n dX2_listClasses_23 rfl ?_
      refine ga_iconst dX2_listClasses_24 ⟨by decide, by decide⟩ ?_
      refine ga_icmp_ge (tgt := 85) dX2_listClasses_25 rfl (fun c_25 => ?_) (fun c_25 => ?_)
      · refine ga_ret (v := none) ?_ rfl (by decide) (by decide) ⟨dX2_listClasses_85, rfl⟩
        exact ⟨τ, hx, e1, rfl, rfl⟩
      · omega
    · omega
  · intro i hi k τ hx q1 q2
    refine ga_iload_n dX2_listClasses_2 rfl ?_
    refine ga_bipush dX2_listClasses_3 ⟨by decide, by decide⟩ (by decide) ?_
    refine ga_icmp_ge (tgt := 21) dX2_listClasses_5 rfl (fun c_5 => ?_) (fun c_5 => ?_)
    · omega
    · refine ga_aload_n dX2_listClasses_8 rfl ?_
      refine hg_getR grX2_19 dX2_listClasses_9 rfl rfl ?_
      refine ga_iload_n dX2_listClasses_12 rfl ?_
      refine ga_iconst dX2_listClasses_13 ⟨by decide, by decide⟩ ?_
      refine hg_zast dX2_listClasses_14 rfl (by omega) (by omega) (by omega) ?_
      refine ga_iinc (z := ((i + 1 : Nat) : Int)) (lv2 := [_, _, _, _, _, _]) dX2_listClasses_15 (by decide) rfl rfl (by omega) (⟨by omega, by omega⟩) rfl ?_
      refine ga_goto (tgt := 2) dX2_listClasses_18 rfl ?_
      refine k _ (exc_st hx (by decide)) q1 (fun p a b => ?_)
      show ga_up (τ.1 62) i 0 p = 0
      by_cases q : p = i
      · rw [q, ga_up_at]
      · rw [ga_up_ne _ _ q]; exact q2 p a (by omega)
