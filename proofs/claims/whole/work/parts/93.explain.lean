-- the reference: keep, differ
def dpP (l c f : Int → Int) (L : Int) : Prop := (∀ x : Int, 0 ≤ x → x < 30 → (∀ i : Int, 0 ≤ i → i < L → l i ≠ x) → f x = -1) ∧ (∀ i : Int, 0 ≤ i → i < L → f (l i) = c i) ∧ (∀ y : Int, 0 ≤ y → y < 30 → (∀ i : Int, 0 ≤ i → i < L → c i ≠ y) → f (30 + y) = -1) ∧ (∀ i : Int, 0 ≤ i → i < L → f (30 + c i) = l i)
theorem T_X11_keep (σ : ga_S) (L : Nat) (h22 : σ.1 63 22 = L) (hL : L ≤ 30) (h1 : ∀ i : Int, 0 ≤ i → i < L → 0 ≤ σ.1 80 i ∧ σ.1 80 i < 30 ∧ 0 ≤ σ.1 81 i ∧ σ.1 81 i < 30) (i1 : ∀ i j : Int, 0 ≤ i → i < L → 0 ≤ j → j < L → σ.1 80 i = σ.1 80 j → i = j) (i2 : ∀ i j : Int, 0 ≤ i → i < L → 0 ≤ j → j < L → σ.1 81 i = σ.1 81 j → i = j) : ga_Mt 0 0 0 mX11_keep [Vr 63] (HP σ) (fun v h => ∃ τ, exc [63, 78, 79] σ τ ∧ τ.1 63 = ga_up (σ.1 63) 18 1 ∧ dpP (σ.1 80) (σ.1 81) (τ.1 78) L ∧ (∀ n : Int, 0 ≤ n → n < 40 → τ.1 79 n = σ.1 83 n) ∧ v = none ∧ h = HP τ) ga_nox := by
  refine ga_meth [some (Vr 63), none] rfl rfl (by decide +kernel) (Nat.le_of_ble_eq_true rfl) rfl ?_
  refine ga_iconst dX11_keep_0 ⟨by decide, by decide⟩ ?_
  refine ga_istore_n (lv2 := [_, _]) dX11_keep_1 (by decide) rfl rfl ?_
  refine (ga_loop 60 (fun k => ∀ τ, exc [78] σ τ → (∀ i : Int, 0 ≤ i → i < k → τ.1 78 i = -1) → ga_W 0 0 0 0 0 mX11_keep (fun v h => ∃ τ, exc [63, 78, 79] σ τ ∧ τ.1 63 = ga_up (σ.1 63) 18 1 ∧ dpP (σ.1 80) (σ.1 81) (τ.1 78) L ∧ (∀ n : Int, 0 ≤ n → n < 40 → τ.1 79 n = σ.1 83 n) ∧ v = none ∧ h = HP τ) ga_nox 2 [some (Vr 63), some (Vi (k : Int))] [] (HP τ)) ?_ ?_ 0 (Nat.zero_le _) σ exc_r (fun x x1 x2 => by omega) : _)
  rotate_left
  · intro m hm k τ hx h0
    refine ga_iload_n dX11_keep_2 rfl ?_
    refine ga_bipush dX11_keep_3 ⟨by decide, by decide⟩ (by decide) ?_
    refine ga_icmp_ge (tgt := 21) dX11_keep_5 rfl (fun c_5 => ?_) (fun c_5 => ?_)
    · omega
    · refine ga_aload_n dX11_keep_8 rfl ?_
      refine hg_getR grX11_54 dX11_keep_9 rfl rfl ?_
      refine ga_iload_n dX11_keep_12 rfl ?_
      refine ga_iconst dX11_keep_13 ⟨by decide, by decide⟩ ?_
      refine hg_iast dX11_keep_14 rfl (by omega) (by omega) ?_
      refine ga_iinc (z := ((m + 1 : Nat) : Int)) (lv2 := [_, _]) dX11_keep_15 (by decide) rfl rfl (by omega) (⟨by omega, by omega⟩) rfl ?_
      refine ga_goto (tgt := 2) dX11_keep_18 rfl ?_
      refine k _ (exc_st hx (by decide)) (fun i i1 i2 => ?_)
      rw [stI_at]
      by_cases w : i = m
      · rw [w, ga_up_at]
      · rw [ga_up_ne _ _ w]; exact h0 i i1 (by omega)
  intro τ hx h0
  refine ga_iload_n dX11_keep_2 rfl ?_
  refine ga_bipush dX11_keep_3 ⟨by decide, by decide⟩ (by decide) ?_
  refine ga_icmp_ge (tgt := 21) dX11_keep_5 rfl (fun c_5 => ?_) (fun c_5 => ?_)
  rotate_left
  · omega
  refine ga_iconst dX11_keep_21 ⟨by decide, by decide⟩ ?_
  refine ga_istore_n (lv2 := [_, _]) dX11_keep_22 (by decide) rfl rfl ?_
  refine (ga_loop L (fun k => ∀ τ, exc [78] σ τ → dpP (σ.1 80) (σ.1 81) (τ.1 78) k → ga_W 0 0 0 0 0 mX11_keep (fun v h => ∃ τ, exc [63, 78, 79] σ τ ∧ τ.1 63 = ga_up (σ.1 63) 18 1 ∧ dpP (σ.1 80) (σ.1 81) (τ.1 78) L ∧ (∀ n : Int, 0 ≤ n → n < 40 → τ.1 79 n = σ.1 83 n) ∧ v = none ∧ h = HP τ) ga_nox 23 [some (Vr 63), some (Vi (k : Int))] [] (HP τ)) ?_ ?_ 0 (Nat.zero_le _) τ hx ⟨fun x x1 x2 _ => h0 x x1 (by omega), fun i a b => by omega, fun y a b _ => h0 _ (by omega) (by omega), fun i a b => by omega⟩ : _)
  rotate_left
  · intro m hm k τ hx h0
    have e80 : τ.1 80 = σ.1 80 := hx.1 80 (by decide)
    have e81 : τ.1 81 = σ.1 81 := hx.1 81 (by decide)
    have j22 : τ.1 63 22 = L := by rw [hx.1 63 (by decide)]; exact h22
    have hm1 := h1 m (by omega) (by omega)
    have k80 : (stI τ 78 (ga_up (τ.1 78) (σ.1 80 m) (σ.1 81 m))).1 80 = σ.1 80 := e80
    have k81 : (stI τ 78 (ga_up (τ.1 78) (σ.1 80 m) (σ.1 81 m))).1 81 = σ.1 81 := e81
    refine ga_iload_n dX11_keep_23 rfl ?_
    refine ga_aload_n dX11_keep_24 rfl ?_
    refine hg_getI 22 grX11_194 dX11_keep_25 rfl rfl rfl ?_
    refine ga_icmp_ge (tgt := 74) dX11_keep_28 rfl (fun c_28 => ?_) (fun c_28 => ?_)
    · omega
    · refine ga_aload_n dX11_keep_31 rfl ?_
      refine hg_getR grX11_54 dX11_keep_32 rfl rfl ?_
      refine ga_aload_n dX11_keep_35 rfl ?_
      refine hg_getR grX11_60 dX11_keep_36 rfl rfl ?_
      refine ga_iload_n dX11_keep_39 rfl ?_
      refine hg_iald dX11_keep_40 rfl (by omega) (by omega) ?_
      refine ga_aload_n dX11_keep_41 rfl ?_
      refine hg_getR grX11_63 dX11_keep_42 rfl rfl ?_
      refine ga_iload_n dX11_keep_45 rfl ?_
      refine hg_iald dX11_keep_46 rfl (by omega) (by omega) ?_
      rw [e80, e81]
      refine hg_iast dX11_keep_47 rfl (by omega) (by omega) ?_
      refine ga_aload_n dX11_keep_48 rfl ?_
      refine hg_getR grX11_54 dX11_keep_49 rfl rfl ?_
      refine ga_bipush dX11_keep_52 ⟨by decide, by decide⟩ (by decide) ?_
      refine ga_aload_n dX11_keep_54 rfl ?_
      refine hg_getR grX11_63 dX11_keep_55 rfl rfl ?_
      refine ga_iload_n dX11_keep_58 rfl ?_
      refine hg_iald dX11_keep_59 rfl (by omega) (by omega) ?_
      rw [k81]
      refine ga_iadd (z := (30 + σ.1 81 m)) dX11_keep_60 (by omega) (⟨by omega, by omega⟩) ?_
      refine ga_aload_n dX11_keep_61 rfl ?_
      refine hg_getR grX11_60 dX11_keep_62 rfl rfl ?_
      refine ga_iload_n dX11_keep_65 rfl ?_
      refine hg_iald dX11_keep_66 rfl (by omega) (by omega) ?_
      rw [k80]
      refine hg_iast dX11_keep_67 rfl (by omega) (by omega) ?_
      refine ga_iinc (z := ((m + 1 : Nat) : Int)) (lv2 := [_, _]) dX11_keep_68 (by decide) rfl rfl (by omega) (⟨by omega, by omega⟩) rfl ?_
      refine ga_goto (tgt := 23) dX11_keep_71 rfl ?_
      refine k _ (exc_st (exc_st hx (by decide)) (by decide)) ?_
      obtain ⟨g1, g2, g3, g4⟩ := h0
      show dpP (σ.1 80) (σ.1 81) (ga_up (ga_up (τ.1 78) (σ.1 80 m) (σ.1 81 m)) (30 + σ.1 81 m) (σ.1 80 m)) ((m + 1 : Nat) : Int)
      refine ⟨fun x x1 x2 x3 => ?_, fun i a b => ?_, fun y y1 y2 y3 => ?_, fun i a b => ?_⟩
      · have := x3 m (by omega) (by omega)
        rw [ga_up_ne _ _ (by omega), ga_up_ne _ _ (by omega)]
        exact g1 x x1 x2 (fun i a b => x3 i a (by omega))
      · have hi := h1 i a (by omega)
        rw [ga_up_ne _ _ (by omega)]
        by_cases w : i = m
        · rw [w, ga_up_at]
        · rw [ga_up_ne _ _ (fun z => w (i1 i m a (by omega) (by omega) (by omega) z))]
          exact g2 i a (by omega)
      · have := y3 m (by omega) (by omega)
        rw [ga_up_ne _ _ (by omega), ga_up_ne _ _ (by omega)]
        exact g3 y y1 y2 (fun i a b => y3 i a (by omega))
      · have hi := h1 i a (by omega)
        by_cases w : i = m
        · rw [w, ga_up_at]
        · rw [ga_up_ne _ _ (fun z => w (i2 i m a (by omega) (by omega) (by omega) (by omega))), ga_up_ne _ _ (by omega)]
          exact g4 i a (by omega)
  intro τ hx hd
  have j22 : τ.1 63 22 = L := by rw [hx.1 63 (by decide)]; exact h22
  refine ga_iload_n dX11_keep_23 rfl ?_
  refine ga_aload_n dX11_keep_24 rfl ?_
  refine hg_getI 22 grX11_194 dX11_keep_25 rfl rfl rfl ?_
  refine ga_icmp_ge (tgt := 74) dX11_keep_28 rfl (fun c_28 => ?_) (fun c_28 => ?_)
  rotate_left
  · omega
  refine ga_iconst dX11_keep_74 ⟨by decide, by decide⟩ ?_
  refine ga_istore_n (lv2 := [_, _]) dX11_keep_75 (by decide) rfl rfl ?_
  refine (ga_loop 40 (fun k => ∀ υ, exc [79] τ υ → (∀ n : Int, 0 ≤ n → n < k → υ.1 79 n = σ.1 83 n) → ga_W 0 0 0 0 0 mX11_keep (fun v h => ∃ τ, exc [63, 78, 79] σ τ ∧ τ.1 63 = ga_up (σ.1 63) 18 1 ∧ dpP (σ.1 80) (σ.1 81) (τ.1 78) L ∧ (∀ n : Int, 0 ≤ n → n < 40 → τ.1 79 n = σ.1 83 n) ∧ v = none ∧ h = HP τ) ga_nox 76 [some (Vr 63), some (Vi (k : Int))] [] (HP υ)) ?_ ?_ 0 (Nat.zero_le _) τ exc_r (fun n a b => by omega) : _)
  · intro υ hy h2
    refine ga_iload_n dX11_keep_76 rfl ?_
    refine ga_bipush dX11_keep_77 ⟨by decide, by decide⟩ (by decide) ?_
    refine ga_icmp_ge (tgt := 100) dX11_keep_79 rfl (fun c_79 => ?_) (fun c_79 => ?_)
    · refine ga_aload_n dX11_keep_100 rfl ?_
      refine ga_iconst dX11_keep_101 ⟨by decide, by decide⟩ ?_
      refine hg_putZ 18 gfX11_214 dX11_keep_102 rfl rfl (by omega) rfl ?_
      refine ga_ret (v := none) ?_ rfl (by decide) (by decide) ⟨dX11_keep_105, rfl⟩
      refine ⟨stI υ 63 (ga_up (υ.1 63) 18 1), exc_st (exc_tr hx hy (by decide) (by decide)) (by decide), ?_, ?_, h2, rfl, rfl⟩
      · show ga_up (υ.1 63) 18 1 = _
        rw [hy.1 63 (by decide), hx.1 63 (by decide)]
      · show dpP _ _ (υ.1 78) _
        rw [hy.1 78 (by decide)]
        exact hd
    · omega
  · intro m hm k υ hy h2
    have e83 : υ.1 83 = σ.1 83 := by rw [hy.1 83 (by decide), hx.1 83 (by decide)]
    refine ga_iload_n dX11_keep_76 rfl ?_
    refine ga_bipush dX11_keep_77 ⟨by decide, by decide⟩ (by decide) ?_
    refine ga_icmp_ge (tgt := 100) dX11_keep_79 rfl (fun c_79 => ?_) (fun c_79 => ?_)
    · omega
    · refine ga_aload_n dX11_keep_82 rfl ?_
      refine hg_getR grX11_57 dX11_keep_83 rfl rfl ?_
      refine ga_iload_n dX11_keep_86 rfl ?_
      refine ga_aload_n dX11_keep_87 rfl ?_
      refine hg_getR grX11_69 dX11_keep_88 rfl rfl ?_
      refine ga_iload_n dX11_keep_91 rfl ?_
      refine hg_iald dX11_keep_92 rfl (by omega) (by omega) ?_
      refine hg_iast dX11_keep_93 rfl (by omega) (by omega) ?_
      refine ga_iinc (z := ((m + 1 : Nat) : Int)) (lv2 := [_, _]) dX11_keep_94 (by decide) rfl rfl (by omega) (⟨by omega, by omega⟩) rfl ?_
      refine ga_goto (tgt := 76) dX11_keep_97 rfl ?_
      refine k _ (exc_st hy (by decide)) (fun n a b => ?_)
      rw [stI_at]
      by_cases w : n = m
      · rw [w, ga_up_at, e83]
      · rw [ga_up_ne _ _ w]; exact h2 n a (by omega)
theorem T_X11_differ (a b c d : Int) (σ : ga_S) (n : Int) (hn : σ.1 63 17 = n) (h1 : 0 ≤ n) (h2 : n < 200) : ga_Mt 0 0 0 mX11_differ [Vr 63, Vi a, Vi b, Vi c, Vi d] (HP σ) (gis none (stI (stI σ 77 (addF (σ.1 77) n a b c d)) 63 (ga_up (σ.1 63) 17 (n + 1)))) ga_nox := by
  refine ga_meth [some (Vr 63), some (Vi a), some (Vi b), some (Vi c), some (Vi d), none] rfl rfl (by decide +kernel) (Nat.le_of_ble_eq_true rfl) rfl ?_
  refine ga_iconst dX11_differ_0 ⟨by decide, by decide⟩ ?_
  refine ga_aload_n dX11_differ_1 rfl ?_
  refine hg_getI 17 grX11_218 dX11_differ_2 rfl rfl rfl ?_
  rw [hn]
  refine ga_imul (z := (n * 4)) dX11_differ_5 (by omega) (⟨by omega, by omega⟩) ?_
  refine ga_istore (lv2 := [_, _, _, _, _, _]) dX11_differ_6 (by decide) rfl rfl ?_
  refine ga_aload_n dX11_differ_8 rfl ?_
  refine hg_getR grX11_51 dX11_differ_9 rfl rfl ?_
  refine ga_iload dX11_differ_12 rfl ?_
  refine ga_iload_n dX11_differ_14 rfl ?_
  refine hg_iast dX11_differ_15 rfl (by omega) (by omega) ?_
  refine ga_aload_n dX11_differ_16 rfl ?_
  refine hg_getR grX11_51 dX11_differ_17 rfl rfl ?_
  refine ga_iload dX11_differ_20 rfl ?_
  refine ga_iconst dX11_differ_22 ⟨by decide, by decide⟩ ?_
  refine ga_iadd dX11_differ_23 rfl (⟨by omega, by omega⟩) ?_
  refine ga_iload_n dX11_differ_24 rfl ?_
  refine hg_iast dX11_differ_25 rfl (by omega) (by omega) ?_
  refine ga_aload_n dX11_differ_26 rfl ?_
  refine hg_getR grX11_51 dX11_differ_27 rfl rfl ?_
  refine ga_iload dX11_differ_30 rfl ?_
  refine ga_iconst dX11_differ_32 ⟨by decide, by decide⟩ ?_
  refine ga_iadd dX11_differ_33 rfl (⟨by omega, by omega⟩) ?_
  refine ga_iload_n dX11_differ_34 rfl ?_
  refine hg_iast dX11_differ_35 rfl (by omega) (by omega) ?_
  refine ga_aload_n dX11_differ_36 rfl ?_
  refine hg_getR grX11_51 dX11_differ_37 rfl rfl ?_
  refine ga_iload dX11_differ_40 rfl ?_
  refine ga_iconst dX11_differ_42 ⟨by decide, by decide⟩ ?_
  refine ga_iadd dX11_differ_43 rfl (⟨by omega, by omega⟩) ?_
  refine ga_iload dX11_differ_44 rfl ?_
  refine hg_iast dX11_differ_46 rfl (by omega) (by omega) ?_
  refine ga_aload_n dX11_differ_47 rfl ?_
  refine ga_dup dX11_differ_48 rfl ?_
  have e9 : (stI (stI (stI (stI σ 77 (ga_up (σ.1 77) (n * 4) a)) 77 (ga_up ((stI σ 77 (ga_up (σ.1 77) (n * 4) a)).1 77) (n * 4 + 1) b)) 77 (ga_up ((stI (stI σ 77 (ga_up (σ.1 77) (n * 4) a)) 77 (ga_up ((stI σ 77 (ga_up (σ.1 77) (n * 4) a)).1 77) (n * 4 + 1) b)).1 77) (n * 4 + 2) c)) 77 (ga_up ((stI (stI (stI σ 77 (ga_up (σ.1 77) (n * 4) a)) 77 (ga_up ((stI σ 77 (ga_up (σ.1 77) (n * 4) a)).1 77) (n * 4 + 1) b)) 77 (ga_up ((stI (stI σ 77 (ga_up (σ.1 77) (n * 4) a)) 77 (ga_up ((stI σ 77 (ga_up (σ.1 77) (n * 4) a)).1 77) (n * 4 + 1) b)).1 77) (n * 4 + 2) c)).1 77) (n * 4 + 3) d)) = stI σ 77 (addF (σ.1 77) n a b c d) := by
    rw [stI_st, stI_at, stI_st, stI_at, stI_st, stI_at]
    rfl
  rw [e9]
  have e8 : (stI σ 77 (addF (σ.1 77) n a b c d)).1 63 17 = n := hn
  refine hg_getI 17 grX11_218 dX11_differ_49 rfl rfl rfl ?_
  rw [e8]
  refine ga_iconst dX11_differ_52 ⟨by decide, by decide⟩ ?_
  refine ga_iadd dX11_differ_53 rfl (⟨by omega, by omega⟩) ?_
  refine hg_putI 17 gfX11_218 dX11_differ_54 rfl rfl rfl ?_
  refine ga_ret (v := none) ?_ rfl (by decide) (by decide) ⟨dX11_differ_57, rfl⟩
  exact ⟨rfl, rfl⟩
