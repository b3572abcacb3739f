-- the reference: pairNets, isChoice
theorem T_X11_pairNets (σ : ga_S) (L : Int) (ch : Int → Int) (l1 : 0 ≤ L) (l2 : L ≤ 30) (hl : ∀ a : Int, 0 ≤ a → a < 80 → bU σ a → σ.1 84 (80 * L + a) = lsM (bU σ) (SE σ ch L) 80 a) (hu : ∀ a : Int, 0 ≤ a → a < 80 → σ.1 86 a = tv (bU σ a)) : ga_Mt 0 0 0 mX11_pairNets [Vr 63, Vi L] (HP σ) (fun v h => ∃ τ, exc [82, 83] σ τ ∧ (∀ n : Int, 0 ≤ n → n < 40 → τ.1 83 n = gN σ ch L 40 n) ∧ v = none ∧ h = HP τ) ga_nox := by
  have q := SE_q σ ch L
  have hq : ∀ a b : Int, 0 ≤ a → a < 80 → 0 ≤ b → b < 80 → bU σ a → bU σ b → (σ.1 84 (80 * L + a) = σ.1 84 (80 * L + b) ↔ SE σ ch L a b) := fun a b a1 a2 b1 b2 ua ub => by
    rw [hl a a1 a2 ua, hl b b1 b2 ub, lsM_y ua, lsM_y ub]
    exact lst_eq (T := 80) q.1 q.2.1 q.2.2 a1 a2 b1 b2 ua ub
  refine ga_meth [some (Vr 63), some (Vi L), none, none] rfl rfl (by decide +kernel) (Nat.le_of_ble_eq_true rfl) rfl ?_
  refine ga_iconst dX11_pairNets_0 ⟨by decide, by decide⟩ ?_
  refine ga_istore_n (lv2 := [_, _, _, _]) dX11_pairNets_1 (by decide) rfl rfl ?_
  refine (ga_loop 40 (fun m => ∀ τ, exc [82, 83] σ τ → (∀ i : Int, 0 ≤ i → i < m → τ.1 82 i = 0) → ga_W 0 0 0 0 0 mX11_pairNets (fun v h => ∃ τ, exc [82, 83] σ τ ∧ (∀ n : Int, 0 ≤ n → n < 40 → τ.1 83 n = gN σ ch L 40 n) ∧ v = none ∧ h = HP τ) ga_nox 2 [some (Vr 63), some (Vi L), some (Vi (m : Int)), none] [] (HP τ)) ?_ ?_ 0 (Nat.zero_le _) σ exc_r (fun x x1 x2 => by omega) : _)
  rotate_left
  · intro m hm k τ hx h0
    refine ga_iload_n dX11_pairNets_2 rfl ?_
    refine ga_bipush dX11_pairNets_3 ⟨by decide, by decide⟩ (by decide) ?_
    refine ga_icmp_ge (tgt := 21) dX11_pairNets_5 rfl (fun c_5 => ?_) (fun c_5 => ?_)
    · omega
    · refine ga_aload_n dX11_pairNets_8 rfl ?_
      refine hg_getR grX11_66 dX11_pairNets_9 rfl rfl ?_
      refine ga_iload_n dX11_pairNets_12 rfl ?_
      refine ga_iconst dX11_pairNets_13 ⟨by decide, by decide⟩ ?_
      refine hg_zast dX11_pairNets_14 rfl (by omega) (by omega) (by omega) ?_
      refine ga_iinc (z := ((m + 1 : Nat) : Int)) (lv2 := [_, _, _, _]) dX11_pairNets_15 (by decide) rfl rfl (by omega) (⟨by omega, by omega⟩) rfl ?_
      refine ga_goto (tgt := 2) dX11_pairNets_18 rfl ?_
      refine k _ (exc_st hx (by decide)) (fun i i1 i2 => ?_)
      rw [stI_at]
      by_cases w : i = m
      · rw [w, ga_up_at]
      · rw [ga_up_ne _ _ w]; exact h0 i i1 (by omega)
  intro τ hx h0
  refine ga_iload_n dX11_pairNets_2 rfl ?_
  refine ga_bipush dX11_pairNets_3 ⟨by decide, by decide⟩ (by decide) ?_
  refine ga_icmp_ge (tgt := 21) dX11_pairNets_5 rfl (fun c_5 => ?_) (fun c_5 => ?_)
  rotate_left
  · omega
  refine ga_iconst dX11_pairNets_21 ⟨by decide, by decide⟩ ?_
  refine ga_istore_n (lv2 := [_, _, _, _]) dX11_pairNets_22 (by decide) rfl rfl ?_
  refine (ga_loop 40 (fun n => ∀ τ z, exc [82, 83] σ τ → (∀ i : Int, 0 ≤ i → i < n → τ.1 83 i = gN σ ch L n i) → (∀ m : Int, 0 ≤ m → m < 40 → (τ.1 82 m = 0 ↔ ∀ i : Int, 0 ≤ i → i < n → gN σ ch L n i ≠ m)) → ga_W 0 0 0 0 0 mX11_pairNets (fun v h => ∃ τ, exc [82, 83] σ τ ∧ (∀ n : Int, 0 ≤ n → n < 40 → τ.1 83 n = gN σ ch L 40 n) ∧ v = none ∧ h = HP τ) ga_nox 23 [some (Vr 63), some (Vi L), some (Vi (n : Int)), z] [] (HP τ)) ?_ ?_ 0 (Nat.zero_le _) τ none hx (fun x x1 x2 => by omega) (fun m m1 m2 => ⟨fun _ i i1 i2 => by omega, fun _ => h0 m m1 m2⟩) : _)
  · intro τ z hx h1 h2
    refine ga_iload_n dX11_pairNets_23 rfl ?_
    refine ga_bipush dX11_pairNets_24 ⟨by decide, by decide⟩ (by decide) ?_
    refine ga_icmp_ge (tgt := 138) dX11_pairNets_26 rfl (fun c_26 => ?_) (fun c_26 => ?_)
    · refine ga_ret (v := none) ?_ rfl (by decide) (by decide) ⟨dX11_pairNets_138, rfl⟩
      exact ⟨τ, hx, h1, rfl, rfl⟩
    · omega
  · intro n hn k τ z hx h1 h2
    have hun : τ.1 86 n = tv (bU σ n) := by rw [hx.1 86 (by decide)]; exact hu n (by omega) (by omega)
    have e84 : τ.1 84 = σ.1 84 := hx.1 84 (by decide)
    have e86 : τ.1 86 = σ.1 86 := hx.1 86 (by decide)
    -- with the net's answer
    have R132 : ∀ (τ : ga_S) (z : Option ga_V) (x : Int), exc [82, 83] σ τ → x = tif (bU σ n) (lstF (fun m => bU σ (40 + m) ∧ (∀ i : Int, 0 ≤ i → i < n → gN σ ch L n i ≠ m) ∧ SE σ ch L n (40 + m)) 40) (-1) → (∀ i : Int, 0 ≤ i → i < n → τ.1 83 i = gN σ ch L n i) → τ.1 83 n = x → (∀ m : Int, 0 ≤ m → m < 40 → (τ.1 82 m = 0 ↔ (∀ i : Int, 0 ≤ i → i < n → gN σ ch L n i ≠ m) ∧ x ≠ m)) → ga_W 0 0 0 0 0 mX11_pairNets (fun v h => ∃ τ, exc [82, 83] σ τ ∧ (∀ n : Int, 0 ≤ n → n < 40 → τ.1 83 n = gN σ ch L 40 n) ∧ v = none ∧ h = HP τ) ga_nox 132 [some (Vr 63), some (Vi L), some (Vi (n : Int)), z] [] (HP τ) := by
      intro τ z x hx ex h1 hv h2
      refine ga_iinc (z := ((n + 1 : Nat) : Int)) (lv2 := [_, _, _, _]) dX11_pairNets_132 (by decide) rfl rfl (by omega) (⟨by omega, by omega⟩) rfl ?_
      refine ga_goto (tgt := 23) dX11_pairNets_135 rfl ?_
      refine k τ _ hx (fun i i1 i2 => ?_) (fun m m1 m2 => ?_)
      · rw [gN_s, ← ex]
        by_cases w : i = n
        · rw [w, ga_up_at]; exact hv
        · rw [ga_up_ne _ _ w]; exact h1 i i1 (by omega)
      · rw [h2 m m1 m2, gN_s, ← ex]
        constructor
        · rintro ⟨a, b⟩ i i1 i2
          by_cases w : i = n
          · rw [w, ga_up_at]; exact b
          · rw [ga_up_ne _ _ w]; exact a i i1 (by omega)
        · intro a
          refine ⟨fun i i1 i2 => ?_, ?_⟩
          · have := a i i1 (by omega)
            rw [ga_up_ne _ _ (by omega)] at this
            exact this
          · have := a n (by omega) (by omega)
            rw [ga_up_at] at this
            exact this
    refine ga_iload_n dX11_pairNets_23 rfl ?_
    refine ga_bipush dX11_pairNets_24 ⟨by decide, by decide⟩ (by decide) ?_
    refine ga_icmp_ge (tgt := 138) dX11_pairNets_26 rfl (fun c_26 => ?_) (fun c_26 => ?_)
    · omega
    · refine ga_aload_n dX11_pairNets_29 rfl ?_
      refine hg_getR grX11_69 dX11_pairNets_30 rfl rfl ?_
      refine ga_iload_n dX11_pairNets_33 rfl ?_
      refine ga_iconst dX11_pairNets_34 ⟨by decide, by decide⟩ ?_
      refine hg_iast dX11_pairNets_35 rfl (by omega) (by omega) ?_
      refine ga_iconst dX11_pairNets_36 ⟨by decide, by decide⟩ ?_
      refine ga_istore_n (lv2 := [_, _, _, _]) dX11_pairNets_37 (by decide) rfl rfl ?_
      have x1 : exc [82, 83] σ (stI τ 83 (ga_up (τ.1 83) n (-1))) := exc_st hx (by decide)
      have g1 : ∀ i : Int, 0 ≤ i → i < n → (stI τ 83 (ga_up (τ.1 83) n (-1))).1 83 i = gN σ ch L n i := fun i i1 i2 => by rw [stI_at, ga_up_ne _ _ (by omega)]; exact h1 i i1 i2
      have g2 : (stI τ 83 (ga_up (τ.1 83) n (-1))).1 83 n = -1 := by rw [stI_at, ga_up_at]
      rcases Classical.em (bU σ n) with un | un
      · have NO : (∀ m : Int, 0 ≤ m → m < 40 → ¬ (fun m => bU σ (40 + m) ∧ (∀ i : Int, 0 ≤ i → i < n → gN σ ch L n i ≠ m) ∧ SE σ ch L n (40 + m)) m) → (-1 : Int) = tif (bU σ n) (lstF (fun m => bU σ (40 + m) ∧ (∀ i : Int, 0 ≤ i → i < n → gN σ ch L n i ≠ m) ∧ SE σ ch L n (40 + m)) 40) (-1) := by
          intro hno
          rw [tif1 un]
          rcases lstF_is (fun m => bU σ (40 + m) ∧ (∀ i : Int, 0 ≤ i → i < n → gN σ ch L n i ≠ m) ∧ SE σ ch L n (40 + m)) 40 with w | w
          · exact w.1.symm
          · exact absurd w.2.2.1 (hno _ w.1 w.2.1)
        refine (ga_loop 40 (fun m => (∀ m2 : Int, 0 ≤ m2 → m2 < m → ¬ (fun m => bU σ (40 + m) ∧ (∀ i : Int, 0 ≤ i → i < n → gN σ ch L n i ≠ m) ∧ SE σ ch L n (40 + m)) m2) → ga_W 0 0 0 0 0 mX11_pairNets (fun v h => ∃ τ, exc [82, 83] σ τ ∧ (∀ n : Int, 0 ≤ n → n < 40 → τ.1 83 n = gN σ ch L 40 n) ∧ v = none ∧ h = HP τ) ga_nox 38 [some (Vr 63), some (Vi L), some (Vi (n : Int)), some (Vi (m : Int))] [] (HP (stI τ 83 (ga_up (τ.1 83) n (-1))))) ?_ ?_ 0 (Nat.zero_le _) (fun m m1 m2 => by omega) : _)
        · intro hno
          have e1 := NO hno
          refine ga_iload_n dX11_pairNets_38 rfl ?_
          refine ga_bipush dX11_pairNets_39 ⟨by decide, by decide⟩ (by decide) ?_
          refine ga_icmp_ge (tgt := 132) dX11_pairNets_41 rfl (fun c_41 => ?_) (fun c_41 => ?_)
          · refine R132 _ _ (-1) x1 e1 g1 g2 (fun m m1 m2 => ?_)
            show τ.1 82 m = 0 ↔ _
            rw [h2 m m1 m2]
            exact ⟨fun w => ⟨w, by omega⟩, fun w => w.1⟩
          · omega
        · intro m hm k2 hno
          have GO : ¬ (fun m => bU σ (40 + m) ∧ (∀ i : Int, 0 ≤ i → i < n → gN σ ch L n i ≠ m) ∧ SE σ ch L n (40 + m)) m → ga_W 0 0 0 0 0 mX11_pairNets (fun v h => ∃ τ, exc [82, 83] σ τ ∧ (∀ n : Int, 0 ≤ n → n < 40 → τ.1 83 n = gN σ ch L 40 n) ∧ v = none ∧ h = HP τ) ga_nox 126 [some (Vr 63), some (Vi L), some (Vi (n : Int)), some (Vi (m : Int))] [] (HP (stI τ 83 (ga_up (τ.1 83) n (-1)))) := by
            intro hn2
            refine ga_iinc (z := ((m + 1 : Nat) : Int)) (lv2 := [_, _, _, _]) dX11_pairNets_126 (by decide) rfl rfl (by omega) (⟨by omega, by omega⟩) rfl ?_
            refine ga_goto (tgt := 38) dX11_pairNets_129 rfl ?_
            refine k2 (fun m2 a b => ?_)
            by_cases w : m2 = m
            · rw [w]; exact hn2
            · exact hno m2 a (by omega)
          have um : σ.1 86 (40 + (m : Int)) = tv (bU σ (40 + m)) := hu _ (by omega) (by omega)
          refine ga_iload_n dX11_pairNets_38 rfl ?_
          refine ga_bipush dX11_pairNets_39 ⟨by decide, by decide⟩ (by decide) ?_
          refine ga_icmp_ge (tgt := 132) dX11_pairNets_41 rfl (fun c_41 => ?_) (fun c_41 => ?_)
          · omega
          · refine ga_aload_n dX11_pairNets_44 rfl ?_
            refine hg_getR grX11_78 dX11_pairNets_45 rfl rfl ?_
            refine ga_iload_n dX11_pairNets_48 rfl ?_
            refine hg_zald dX11_pairNets_49 rfl (by omega) (by omega) ?_
            refine ga_if_eq (tgt := 132) dX11_pairNets_50 rfl (fun c_50 => ?_) (fun c_50 => ?_)
            · have c9 : τ.1 86 n = 0 := c_50
              rw [hun] at c9
              exact absurd un (tv_eq0.mp c9)
            · refine ga_aload_n dX11_pairNets_53 rfl ?_
              refine hg_getR grX11_69 dX11_pairNets_54 rfl rfl ?_
              refine ga_iload_n dX11_pairNets_57 rfl ?_
              refine hg_iald dX11_pairNets_58 rfl (by omega) (by omega) ?_
              refine ga_iconst dX11_pairNets_59 ⟨by decide, by decide⟩ ?_
              refine ga_icmp_ne (tgt := 132) dX11_pairNets_60 rfl (fun c_60 => ?_) (fun c_60 => ?_)
              · exact absurd g2 c_60
              · refine ga_aload_n dX11_pairNets_63 rfl ?_
                refine hg_getR grX11_78 dX11_pairNets_64 rfl rfl ?_
                refine ga_bipush dX11_pairNets_67 ⟨by decide, by decide⟩ (by decide) ?_
                refine ga_iload_n dX11_pairNets_69 rfl ?_
                refine ga_iadd (z := (40 + (m : Int))) dX11_pairNets_70 (by omega) (⟨by omega, by omega⟩) ?_
                refine hg_zald dX11_pairNets_71 rfl (by omega) (by omega) ?_
                refine ga_if_eq (tgt := 126) dX11_pairNets_72 rfl (fun c_72 => ?_) (fun c_72 => ?_)
                · have c9 : τ.1 86 (40 + (m : Int)) = 0 := c_72
                  rw [e86, um] at c9
                  exact GO (fun w => tv_eq0.mp c9 w.1)
                · have c9 : ¬ τ.1 86 (40 + (m : Int)) = 0 := c_72
                  rw [e86, um] at c9
                  have ub := tv_ne0.mp c9
                  refine ga_aload_n dX11_pairNets_75 rfl ?_
                  refine hg_getR grX11_66 dX11_pairNets_76 rfl rfl ?_
                  refine ga_iload_n dX11_pairNets_79 rfl ?_
                  refine hg_zald dX11_pairNets_80 rfl (by omega) (by omega) ?_
                  refine ga_if_ne (tgt := 126) dX11_pairNets_81 rfl (fun c_81 => ?_) (fun c_81 => ?_)
                  · have c8 : ¬ τ.1 82 m = 0 := c_81
                    rw [h2 m (by omega) (by omega)] at c8
                    exact GO (fun w => c8 w.2.1)
                  · have c8 : τ.1 82 m = 0 := c_81
                    rw [h2 m (by omega) (by omega)] at c8
                    refine ga_aload_n dX11_pairNets_84 rfl ?_
                    refine hg_getR grX11_72 dX11_pairNets_85 rfl rfl ?_
                    refine ga_bipush dX11_pairNets_88 ⟨by decide, by decide⟩ (by decide) ?_
                    refine ga_iload_n dX11_pairNets_90 rfl ?_
                    refine ga_imul (z := (80 * L)) dX11_pairNets_91 (by omega) (⟨by omega, by omega⟩) ?_
                    refine ga_iload_n dX11_pairNets_92 rfl ?_
                    refine ga_iadd (z := (80 * L + (n : Int))) dX11_pairNets_93 (by omega) (⟨by omega, by omega⟩) ?_
                    refine hg_iald dX11_pairNets_94 rfl (by omega) (by omega) ?_
                    refine ga_aload_n dX11_pairNets_95 rfl ?_
                    refine hg_getR grX11_72 dX11_pairNets_96 rfl rfl ?_
                    refine ga_bipush dX11_pairNets_99 ⟨by decide, by decide⟩ (by decide) ?_
                    refine ga_iload_n dX11_pairNets_101 rfl ?_
                    refine ga_imul (z := (80 * L)) dX11_pairNets_102 (by omega) (⟨by omega, by omega⟩) ?_
                    refine ga_bipush dX11_pairNets_103 ⟨by decide, by decide⟩ (by decide) ?_
                    refine ga_iadd (z := (80 * L + 40)) dX11_pairNets_105 (by omega) (⟨by omega, by omega⟩) ?_
                    refine ga_iload_n dX11_pairNets_106 rfl ?_
                    refine ga_iadd (z := (80 * L + (40 + (m : Int)))) dX11_pairNets_107 (by omega) (⟨by omega, by omega⟩) ?_
                    refine hg_iald dX11_pairNets_108 rfl (by omega) (by omega) ?_
                    refine ga_icmp_ne (tgt := 126) dX11_pairNets_109 rfl (fun c_109 => ?_) (fun c_109 => ?_)
                    · have c7 : ¬ τ.1 84 (80 * L + (n : Int)) = τ.1 84 (80 * L + (40 + (m : Int))) := c_109
                      rw [e84, hq n (40 + m) (by omega) (by omega) (by omega) (by omega) un ub] at c7
                      exact GO (fun w => c7 w.2.2)
                    · have c7 : τ.1 84 (80 * L + (n : Int)) = τ.1 84 (80 * L + (40 + (m : Int))) := c_109
                      rw [e84, hq n (40 + m) (by omega) (by omega) (by omega) (by omega) un ub] at c7
                      have C : (fun m => bU σ (40 + m) ∧ (∀ i : Int, 0 ≤ i → i < n → gN σ ch L n i ≠ m) ∧ SE σ ch L n (40 + m)) m := ⟨ub, c8, c7⟩
                      have e1 : (m : Int) = tif (bU σ n) (lstF (fun m => bU σ (40 + m) ∧ (∀ i : Int, 0 ≤ i → i < n → gN σ ch L n i ≠ m) ∧ SE σ ch L n (40 + m)) 40) (-1) := by
                        rw [tif1 un]
                        exact (lstF_one (by omega) (by omega) C hno).symm
                      refine ga_aload_n dX11_pairNets_112 rfl ?_
                      refine hg_getR grX11_66 dX11_pairNets_113 rfl rfl ?_
                      refine ga_iload_n dX11_pairNets_116 rfl ?_
                      refine ga_iconst dX11_pairNets_117 ⟨by decide, by decide⟩ ?_
                      refine hg_zast dX11_pairNets_118 rfl (by omega) (by omega) (by omega) ?_
                      refine ga_aload_n dX11_pairNets_119 rfl ?_
                      refine hg_getR grX11_69 dX11_pairNets_120 rfl rfl ?_
                      refine ga_iload_n dX11_pairNets_123 rfl ?_
                      refine ga_iload_n dX11_pairNets_124 rfl ?_
                      refine hg_iast dX11_pairNets_125 rfl (by omega) (by omega) ?_
                      have x2 : exc [82, 83] σ (stI (stI (stI τ 83 (ga_up (τ.1 83) n (-1))) 82 (ga_up ((stI τ 83 (ga_up (τ.1 83) n (-1))).1 82) m 1)) 83 (ga_up ((stI (stI τ 83 (ga_up (τ.1 83) n (-1))) 82 (ga_up ((stI τ 83 (ga_up (τ.1 83) n (-1))).1 82) m 1)).1 83) n m)) := exc_st (exc_st x1 (by decide)) (by decide)
                      have W132 : ∀ z, ga_W 0 0 0 0 0 mX11_pairNets (fun v h => ∃ τ, exc [82, 83] σ τ ∧ (∀ n : Int, 0 ≤ n → n < 40 → τ.1 83 n = gN σ ch L 40 n) ∧ v = none ∧ h = HP τ) ga_nox 132 [some (Vr 63), some (Vi L), some (Vi (n : Int)), z] [] (HP (stI (stI (stI τ 83 (ga_up (τ.1 83) n (-1))) 82 (ga_up ((stI τ 83 (ga_up (τ.1 83) n (-1))).1 82) m 1)) 83 (ga_up ((stI (stI τ 83 (ga_up (τ.1 83) n (-1))) 82 (ga_up ((stI τ 83 (ga_up (τ.1 83) n (-1))).1 82) m 1)).1 83) n m))) := by
                        intro z
                        refine R132 _ _ m x2 e1 (fun i i1 i2 => ?_) ?_ (fun m2 a b => ?_)
                        · rw [stI_at, ga_up_ne _ _ (by omega)]
                          exact g1 i i1 i2
                        · rw [stI_at, ga_up_at]
                        · show ga_up (τ.1 82) m 1 m2 = 0 ↔ _
                          by_cases w : m2 = m
                          · rw [w, ga_up_at]
                            exact ⟨fun z => absurd z (by decide), fun z => absurd rfl z.2⟩
                          · rw [ga_up_ne _ _ w, h2 m2 a b]
                            exact ⟨fun z => ⟨z, fun y => w y.symm⟩, fun z => z.1⟩
                      refine ga_iinc (z := ((m + 1 : Nat) : Int)) (lv2 := [_, _, _, _]) dX11_pairNets_126 (by decide) rfl rfl (by omega) (⟨by omega, by omega⟩) rfl ?_
                      refine ga_goto (tgt := 38) dX11_pairNets_129 rfl ?_
                      refine ga_iload_n dX11_pairNets_38 rfl ?_
                      refine ga_bipush dX11_pairNets_39 ⟨by decide, by decide⟩ (by decide) ?_
                      refine ga_icmp_ge (tgt := 132) dX11_pairNets_41 rfl (fun c_41 => ?_) (fun c_41 => ?_)
                      · exact W132 _
                      · refine ga_aload_n dX11_pairNets_44 rfl ?_
                        refine hg_getR grX11_78 dX11_pairNets_45 rfl rfl ?_
                        refine ga_iload_n dX11_pairNets_48 rfl ?_
                        refine hg_zald dX11_pairNets_49 rfl (by omega) (by omega) ?_
                        refine ga_if_eq (tgt := 132) dX11_pairNets_50 rfl (fun c_50 => ?_) (fun c_50 => ?_)
                        · exact W132 _
                        · refine ga_aload_n dX11_pairNets_53 rfl ?_
                          refine hg_getR grX11_69 dX11_pairNets_54 rfl rfl ?_
                          refine ga_iload_n dX11_pairNets_57 rfl ?_
                          refine hg_iald dX11_pairNets_58 rfl (by omega) (by omega) ?_
                          refine ga_iconst dX11_pairNets_59 ⟨by decide, by decide⟩ ?_
                          refine ga_icmp_ne (tgt := 132) dX11_pairNets_60 rfl (fun c_60 => ?_) (fun c_60 => ?_)
                          · exact W132 _
                          · have c5 : ga_up (τ.1 83) n (-1) n = -1 := g2
                            have c6 : ga_up (ga_up (τ.1 83) n (-1)) n m n = -1 := c_60
                            rw [ga_up_at] at c6
                            omega
      · have e1 : (-1 : Int) = tif (bU σ n) (lstF (fun m => bU σ (40 + m) ∧ (∀ i : Int, 0 ≤ i → i < n → gN σ ch L n i ≠ m) ∧ SE σ ch L n (40 + m)) 40) (-1) := (tif0 un).symm
        refine ga_iload_n dX11_pairNets_38 rfl ?_
        refine ga_bipush dX11_pairNets_39 ⟨by decide, by decide⟩ (by decide) ?_
        refine ga_icmp_ge (tgt := 132) dX11_pairNets_41 rfl (fun c_41 => ?_) (fun c_41 => ?_)
        · exact absurd c_41 (by decide)
        · refine ga_aload_n dX11_pairNets_44 rfl ?_
          refine hg_getR grX11_78 dX11_pairNets_45 rfl rfl ?_
          refine ga_iload_n dX11_pairNets_48 rfl ?_
          refine hg_zald dX11_pairNets_49 rfl (by omega) (by omega) ?_
          refine ga_if_eq (tgt := 132) dX11_pairNets_50 rfl (fun c_50 => ?_) (fun c_50 => ?_)
          · refine R132 _ _ (-1) x1 e1 g1 g2 (fun m m1 m2 => ?_)
            show τ.1 82 m = 0 ↔ _
            rw [h2 m m1 m2]
            exact ⟨fun w => ⟨w, by omega⟩, fun w => w.1⟩
          · have c9 : ¬ τ.1 86 n = 0 := c_50
            rw [hun] at c9
            exact absurd (tv_ne0.mp c9) un
/-- what isChoice asks first -/
def ccP (τ : ga_S) (p : Nat) (x e : Int) : Prop := ((∀ i : Nat, i < p → τ.1 81 i ≠ e) ∧ τ.1 68 (30 + e) = 0) ∧ τ.1 73 x = τ.1 73 (30 + e)
noncomputable abbrev prS (τ : ga_S) : ga_S := stI τ 63 (ga_up (τ.1 63) 31 (τ.1 63 31 + 1))
theorem T_X11_isChoice (τ : ga_S) (N D M E p : Nat) (x e : Int) (ch : Int → Int) (hw : wfR τ N D M E) (hf : fpB τ) (hp : p < 30) (hx : τ.1 80 p = x) (he : τ.1 81 p = e) (lx : bL τ x) (x1 : 0 ≤ x) (x2 : x < 30) (e1 : 0 ≤ e) (e2 : e < E) (hpr : 0 ≤ τ.1 63 31 ∧ τ.1 63 31 < 100000)
    (hE : ∀ y z : Int, 0 ≤ y → y < 80 → 0 ≤ z → z < 80 → bU τ y → bU τ z → (SE τ ch ((p : Int) + 1) y z ↔ τ.1 84 (80 * p + y) = τ.1 84 (80 * p + z) ∧ tcF τ x (30 + e) y = tcF τ x (30 + e) z)) (hu : ∀ a : Int, 0 ≤ a → a < 80 → τ.1 86 a = tv (bU τ a)) : ga_Mt 4 0 0 mX11_isChoice [Vr 63, Vi (p : Int)] (HP τ) (fun v h => (¬ ccP τ p x e ∧ v = some (Vi 0) ∧ h = HP τ) ∨ (ccP τ p x e ∧ ((τ.1 63 30 < τ.1 63 31 + 1 ∧ v = some (Vi 1) ∧ h = HP (prS τ)) ∨ (τ.1 63 31 + 1 ≤ τ.1 63 30 ∧ ((¬ agP τ x (30 + e) ∧ v = some (Vi 0) ∧ h = HP (prS τ)) ∨ (agP τ x (30 + e) ∧ ∃ υ, exc [84, 85, 87] (prS τ) υ ∧ (∀ j : Int, j < 80 * ((p : Int) + 1) → υ.1 84 j = τ.1 84 j) ∧ (∀ a : Int, 0 ≤ a → a < 80 → bU τ a → υ.1 84 (80 * ((p : Int) + 1) + a) = lsM (bU τ) (SE τ ch ((p : Int) + 1)) 80 a) ∧ v = some (Vi (tv (EV τ ch ((p : Int) + 1)))) ∧ h = HP υ)))))) ga_nox := by
  have hE2 := hw.2.1.2.2.1
  have hE3 := hw.2.1.2.1
  have hk := hw.1.2.2.2.2.2.1
  have hz := hw.1.2.2.2.2.2.2
  refine ga_meth [some (Vr 63), some (Vi (p : Int)), none, none] rfl rfl (by decide +kernel) (Nat.le_of_ble_eq_true rfl) rfl ?_
  refine ga_aload_n dX11_isChoice_0 rfl ?_
  refine hg_getR grX11_60 dX11_isChoice_1 rfl rfl ?_
  refine ga_iload_n dX11_isChoice_4 rfl ?_
  refine hg_iald dX11_isChoice_5 rfl (by omega) (by omega) ?_
  refine ga_istore_n (lv2 := [_, _, _, _]) dX11_isChoice_6 (by decide) rfl rfl ?_
  rw [hx]
  refine ga_bipush dX11_isChoice_7 ⟨by decide, by decide⟩ (by decide) ?_
  refine ga_aload_n dX11_isChoice_9 rfl ?_
  refine hg_getR grX11_63 dX11_isChoice_10 rfl rfl ?_
  refine ga_iload_n dX11_isChoice_13 rfl ?_
  refine hg_iald dX11_isChoice_14 rfl (by omega) (by omega) ?_
  refine ga_iadd dX11_isChoice_15 rfl (⟨by omega, by omega⟩) ?_
  refine ga_istore_n (lv2 := [_, _, _, _]) dX11_isChoice_16 (by decide) rfl rfl ?_
  rw [he]
  refine ga_aload_n dX11_isChoice_17 rfl ?_
  refine ga_iload_n dX11_isChoice_18 rfl ?_
  refine ga_aload_n dX11_isChoice_19 rfl ?_
  refine hg_getR grX11_63 dX11_isChoice_20 rfl rfl ?_
  refine ga_iload_n dX11_isChoice_23 rfl ?_
  refine hg_iald dX11_isChoice_24 rfl (by omega) (by omega) ?_
  rw [he]
  refine hc_V (T_X11_isFree p e τ (by omega) e1 (by omega)) fX11_isFree rfl kX11_isFree lkX11_174 dX11_isChoice_25 rfl rfl rfl rfl rfl rfl rfl rfl ?_
  refine ga_if_eq (tgt := 46) dX11_isChoice_28 rfl (fun c_28 => ?_) (fun c_28 => ?_)
  · rw [tv_eq0] at c_28
    refine ga_iconst dX11_isChoice_46 ⟨by decide, by decide⟩ ?_
    refine ga_ret (v := some _) ?_ rfl (by decide) (by decide) ⟨dX11_isChoice_47, _, rfl, rfl⟩
    exact Or.inl ⟨fun w => c_28 w.1, rfl, rfl⟩
  · rw [tv_ne0] at c_28
    refine ga_aload_n dX11_isChoice_31 rfl ?_
    refine hg_getR grX11_39 dX11_isChoice_32 rfl rfl ?_
    refine ga_iload_n dX11_isChoice_35 rfl ?_
    refine hg_iald dX11_isChoice_36 rfl (by omega) (by omega) ?_
    refine ga_aload_n dX11_isChoice_37 rfl ?_
    refine hg_getR grX11_39 dX11_isChoice_38 rfl rfl ?_
    refine ga_iload_n dX11_isChoice_41 rfl ?_
    refine hg_iald dX11_isChoice_42 rfl (by omega) (by omega) ?_
    refine ga_icmp_eq (tgt := 48) dX11_isChoice_43 rfl (fun c_43 => ?_) (fun c_43 => ?_)
    rotate_left
    · refine ga_iconst dX11_isChoice_46 ⟨by decide, by decide⟩ ?_
      refine ga_ret (v := some _) ?_ rfl (by decide) (by decide) ⟨dX11_isChoice_47, _, rfl, rfl⟩
      exact Or.inl ⟨fun w => c_43 w.2, rfl, rfl⟩
    · have C : ccP τ p x e := ⟨c_28, c_43⟩
      have lb : bL τ (30 + e) := ⟨by rw [show (30 + e) / 30 = 1 by omega, hE3]; omega, c_28.2⟩
      have hcP : core (prS τ) = core τ := core_exc (L := [63]) (exc_st exc_r (by decide)) (by decide)
      refine ga_aload_n dX11_isChoice_48 rfl ?_
      refine ga_dup dX11_isChoice_49 rfl ?_
      refine hg_getL 31 grX11_177 dX11_isChoice_50 rfl rfl rfl ?_
      refine ga_lconst (z := (1)) dX11_isChoice_53 ⟨by decide, by decide⟩ rfl ?_
      refine ga_ladd dX11_isChoice_54 rfl (⟨by omega, by omega⟩) ?_
      refine hg_putL 31 gfX11_177 dX11_isChoice_55 rfl rfl rfl ?_
      have n31 : (prS τ).1 63 31 = τ.1 63 31 + 1 := by rw [stI_at, ga_up_at]
      have n30 : (prS τ).1 63 30 = τ.1 63 30 := by rw [stI_at, ga_up_ne _ _ (by decide)]
      refine ga_eqh (h2 := HP (prS τ)) rfl ?_
      refine ga_aload_n dX11_isChoice_58 rfl ?_
      refine hg_getL 31 grX11_177 dX11_isChoice_59 rfl rfl rfl ?_
      refine ga_aload_n dX11_isChoice_62 rfl ?_
      refine hg_getL 30 grX11_181 dX11_isChoice_63 rfl rfl rfl ?_
      refine ga_lcmp dX11_isChoice_66 ?_
      refine ga_if_gt (tgt := 89) dX11_isChoice_67 rfl (fun c_67 => ?_) (fun c_67 => ?_)
      · rw [n31, n30] at c_67
        refine ga_iconst dX11_isChoice_89 ⟨by decide, by decide⟩ ?_
        refine ga_goto (tgt := 94) dX11_isChoice_90 rfl ?_
        refine ga_ret (v := some _) ?_ rfl (by decide) (by decide) ⟨dX11_isChoice_94, _, rfl, rfl⟩
        refine Or.inr ⟨C, Or.inl ⟨?_, rfl, rfl⟩⟩
        have := lc_le (x := τ.1 63 31 + 1) (y := τ.1 63 30)
        omega
      · rw [n31, n30] at c_67
        have le : τ.1 63 31 + 1 ≤ τ.1 63 30 := by
          have := lc_le (x := τ.1 63 31 + 1) (y := τ.1 63 30)
          omega
        refine ga_aload_n dX11_isChoice_70 rfl ?_
        refine ga_iload_n dX11_isChoice_71 rfl ?_
        refine ga_iload_n dX11_isChoice_72 rfl ?_
        refine hc_V (T_X11_isAgreed x (30 + e) (prS τ) x1 (by omega) (by omega) (by omega) (hk x x1 (by omega)) (hz _ (by omega) (by omega)) (hz _ (by omega) (by omega)) (hf x (30 + e) x1 (by omega) (by omega) (by omega) lx lb)) fX11_isAgreed rfl kX11_isAgreed lkX11_184 dX11_isChoice_73 rfl rfl rfl rfl rfl rfl rfl rfl ?_
        refine ga_if_eq (tgt := 93) dX11_isChoice_76 rfl (fun c_76 => ?_) (fun c_76 => ?_)
        · rw [tv_eq0] at c_76
          refine ga_iconst dX11_isChoice_93 ⟨by decide, by decide⟩ ?_
          refine ga_ret (v := some _) ?_ rfl (by decide) (by decide) ⟨dX11_isChoice_94, _, rfl, rfl⟩
          exact Or.inr ⟨C, Or.inr ⟨le, Or.inl ⟨c_76, rfl, rfl⟩⟩⟩
        · rw [tv_ne0] at c_76
          refine ga_aload_n dX11_isChoice_79 rfl ?_
          refine ga_iload_n dX11_isChoice_80 rfl ?_
          refine ga_iload_n dX11_isChoice_81 rfl ?_
          refine ga_iload_n dX11_isChoice_82 rfl ?_
          refine hc_VP (T_X11_isSorted (prS τ) N D M E p x (30 + e) ch (by rw [cg_wfR hcP]; exact hw) hp x1 (by omega) (by omega) (by omega) hE hu) fX11_isSorted rfl kX11_isSorted lkX11_187 dX11_isChoice_83 rfl rfl rfl rfl rfl rfl rfl rfl ?_
          rintro v h ⟨υ, w1, w2, w3, w4, w5⟩
          rw [w4, w5]
          have FIN : ∀ b : Int, b = tv (EV τ ch ((p : Int) + 1)) → (fun v h => (¬ ccP τ p x e ∧ v = some (Vi 0) ∧ h = HP τ) ∨ (ccP τ p x e ∧ ((τ.1 63 30 < τ.1 63 31 + 1 ∧ v = some (Vi 1) ∧ h = HP (prS τ)) ∨ (τ.1 63 31 + 1 ≤ τ.1 63 30 ∧ ((¬ agP τ x (30 + e) ∧ v = some (Vi 0) ∧ h = HP (prS τ)) ∨ (agP τ x (30 + e) ∧ ∃ υ, exc [84, 85, 87] (prS τ) υ ∧ (∀ j : Int, j < 80 * ((p : Int) + 1) → υ.1 84 j = τ.1 84 j) ∧ (∀ a : Int, 0 ≤ a → a < 80 → bU τ a → υ.1 84 (80 * ((p : Int) + 1) + a) = lsM (bU τ) (SE τ ch ((p : Int) + 1)) 80 a) ∧ v = some (Vi (tv (EV τ ch ((p : Int) + 1)))) ∧ h = HP υ)))))) (some (Vi b)) (HP υ) := by
            intro b hb
            exact Or.inr ⟨C, Or.inr ⟨le, Or.inr ⟨c_76, υ, w1, w2, w3, by rw [hb], rfl⟩⟩⟩
          refine ga_if_eq (tgt := 93) dX11_isChoice_86 rfl (fun c_86 => ?_) (fun c_86 => ?_)
          · have c9 : tv (EV τ ch ((p : Int) + 1)) = 0 := c_86
            refine ga_iconst dX11_isChoice_93 ⟨by decide, by decide⟩ ?_
            refine ga_ret (v := some _) ?_ rfl (by decide) (by decide) ⟨dX11_isChoice_94, _, rfl, rfl⟩
            exact FIN 0 c9.symm
          · have c9 : ¬ tv (EV τ ch ((p : Int) + 1)) = 0 := c_86
            refine ga_iconst dX11_isChoice_89 ⟨by decide, by decide⟩ ?_
            refine ga_goto (tgt := 94) dX11_isChoice_90 rfl ?_
            refine ga_ret (v := some _) ?_ rfl (by decide) (by decide) ⟨dX11_isChoice_94, _, rfl, rfl⟩
            exact FIN 1 (tv1 (tv_ne0.mp c9)).symm
