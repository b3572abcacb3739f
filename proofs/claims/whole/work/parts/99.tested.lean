-- the reference: tested
def uS (σ : ga_S) (s n : Int) : Prop := σ.1 64 (40 * s + n) ≠ -1 ∨ 0 < allB σ s n
def snP (σ : ga_S) (n m : Int) (L : Nat) : Prop := σ.1 64 n = σ.1 64 (40 + m) ∧ ∀ i : Nat, i < L → ∀ g : Nat, g < 4 → pO σ (σ.1 80 i) g n = pO σ (30 + σ.1 81 i) g m
theorem T_X11_isSameNet (n m : Int) (σ : ga_S) (L : Nat) (n1 : 0 ≤ n) (n2 : n < 40) (m1 : 0 ≤ m) (m2 : m < 40) (hL : L ≤ 30) (hl : ∀ i : Int, 0 ≤ i → i < L → 0 ≤ σ.1 80 i ∧ σ.1 80 i < 30 ∧ 0 ≤ σ.1 81 i ∧ σ.1 81 i < 30) (hk : ∀ x : Int, 0 ≤ x → x < 60 → 0 ≤ σ.1 66 x ∧ σ.1 66 x < 8) : ga_Mt 2 0 0 mX11_isSameNet [Vr 63, Vi n, Vi m, Vi (L : Int)] (HP σ) (gis (some (Vi (tv (snP σ n m L)))) σ) ga_nox := by
  refine ga_meth [some (Vr 63), some (Vi n), some (Vi m), some (Vi (L : Int)), none, none] rfl rfl (by decide +kernel) (Nat.le_of_ble_eq_true rfl) rfl ?_
  refine ga_aload_n dX11_isSameNet_0 rfl ?_
  refine hg_getR grX11_7 dX11_isSameNet_1 rfl rfl ?_
  refine ga_iload_n dX11_isSameNet_4 rfl ?_
  refine hg_iald dX11_isSameNet_5 rfl (by omega) (by omega) ?_
  refine ga_aload_n dX11_isSameNet_6 rfl ?_
  refine hg_getR grX11_7 dX11_isSameNet_7 rfl rfl ?_
  refine ga_bipush dX11_isSameNet_10 ⟨by decide, by decide⟩ (by decide) ?_
  refine ga_iload_n dX11_isSameNet_12 rfl ?_
  refine ga_iadd dX11_isSameNet_13 rfl (⟨by omega, by omega⟩) ?_
  refine hg_iald dX11_isSameNet_14 rfl (by omega) (by omega) ?_
  refine ga_icmp_eq (tgt := 20) dX11_isSameNet_15 rfl (fun c_15 => ?_) (fun c_15 => ?_)
  rotate_left
  · refine ga_iconst dX11_isSameNet_18 ⟨by decide, by decide⟩ ?_
    refine ga_ret (v := some _) ?_ rfl (by decide) (by decide) ⟨dX11_isSameNet_19, _, rfl, rfl⟩
    exact ⟨tvf (fun w => c_15 w.1), rfl⟩
  refine ga_iconst dX11_isSameNet_20 ⟨by decide, by decide⟩ ?_
  refine ga_istore (lv2 := [_, _, _, _, _, _]) dX11_isSameNet_21 (by decide) rfl rfl ?_
  refine (ga_loop L (fun i => ∀ y, (∀ k : Nat, k < i → ∀ g : Nat, g < 4 → pO σ (σ.1 80 k) g n = pO σ (30 + σ.1 81 k) g m) → ga_W 2 0 0 0 0 mX11_isSameNet (gis (some (Vi (tv (snP σ n m L)))) σ) ga_nox 23 [some (Vr 63), some (Vi n), some (Vi m), some (Vi (L : Int)), some (Vi (i : Int)), y] [] (HP σ)) ?_ ?_ 0 (Nat.zero_le _) _ (fun k hk => by omega) : _)
  · intro y hy
    refine ga_iload dX11_isSameNet_23 rfl ?_
    refine ga_iload_n dX11_isSameNet_25 rfl ?_
    refine ga_icmp_ge (tgt := 86) dX11_isSameNet_26 rfl (fun c_26 => ?_) (fun c_26 => ?_)
    · refine ga_iconst dX11_isSameNet_86 ⟨by decide, by decide⟩ ?_
      refine ga_ret (v := some _) ?_ rfl (by decide) (by decide) ⟨dX11_isSameNet_87, _, rfl, rfl⟩
      exact ⟨tvt ⟨c_15, hy⟩, rfl⟩
    · omega
  · intro i hi k y hy
    have li := hl i (by omega) (by omega)
    refine ga_iload dX11_isSameNet_23 rfl ?_
    refine ga_iload_n dX11_isSameNet_25 rfl ?_
    refine ga_icmp_ge (tgt := 86) dX11_isSameNet_26 rfl (fun c_26 => ?_) (fun c_26 => ?_)
    · omega
    · refine ga_iconst dX11_isSameNet_29 ⟨by decide, by decide⟩ ?_
      refine ga_istore (lv2 := [_, _, _, _, _, _]) dX11_isSameNet_30 (by decide) rfl rfl ?_
      refine (ga_loop 4 (fun q => (∀ g : Nat, g < q → pO σ (σ.1 80 i) g n = pO σ (30 + σ.1 81 i) g m) → ga_W 2 0 0 0 0 mX11_isSameNet (gis (some (Vi (tv (snP σ n m L)))) σ) ga_nox 32 [some (Vr 63), some (Vi n), some (Vi m), some (Vi (L : Int)), some (Vi (i : Int)), some (Vi (q : Int))] [] (HP σ)) ?_ ?_ 0 (Nat.zero_le _) (fun k hk => by omega) : _)
      · intro hz
        refine ga_iload dX11_isSameNet_32 rfl ?_
        refine ga_iconst dX11_isSameNet_34 ⟨by decide, by decide⟩ ?_
        refine ga_icmp_ge (tgt := 80) dX11_isSameNet_35 rfl (fun c_35 => ?_) (fun c_35 => ?_)
        · refine ga_iinc (z := ((i + 1 : Nat) : Int)) (lv2 := [_, _, _, _, _, _]) dX11_isSameNet_80 (by decide) rfl rfl (by omega) (⟨by omega, by omega⟩) rfl ?_
          refine ga_goto (tgt := 23) dX11_isSameNet_83 rfl ?_
          exact k _ (all_s.mpr ⟨hy, hz⟩)
        · omega
      · intro q hq k2 hz
        refine ga_iload dX11_isSameNet_32 rfl ?_
        refine ga_iconst dX11_isSameNet_34 ⟨by decide, by decide⟩ ?_
        refine ga_icmp_ge (tgt := 80) dX11_isSameNet_35 rfl (fun c_35 => ?_) (fun c_35 => ?_)
        · omega
        · refine ga_aload_n dX11_isSameNet_38 rfl ?_
          refine ga_aload_n dX11_isSameNet_39 rfl ?_
          refine hg_getR grX11_60 dX11_isSameNet_40 rfl rfl ?_
          refine ga_iload dX11_isSameNet_43 rfl ?_
          refine hg_iald dX11_isSameNet_45 rfl (by omega) (by omega) ?_
          refine ga_iload dX11_isSameNet_46 rfl ?_
          refine ga_iload_n dX11_isSameNet_48 rfl ?_
          refine hc_V (T_X11_pinsOn (σ.1 80 i) q n σ (by omega) (by omega) (hk _ (by omega) (by omega))) fX11_pinsOn rfl kX11_pinsOn lkX11_111 dX11_isSameNet_49 rfl rfl rfl rfl rfl rfl rfl rfl ?_
          refine ga_aload_n dX11_isSameNet_52 rfl ?_
          refine ga_bipush dX11_isSameNet_53 ⟨by decide, by decide⟩ (by decide) ?_
          refine ga_aload_n dX11_isSameNet_55 rfl ?_
          refine hg_getR grX11_63 dX11_isSameNet_56 rfl rfl ?_
          refine ga_iload dX11_isSameNet_59 rfl ?_
          refine hg_iald dX11_isSameNet_61 rfl (by omega) (by omega) ?_
          refine ga_iadd dX11_isSameNet_62 rfl (⟨by omega, by omega⟩) ?_
          refine ga_iload dX11_isSameNet_63 rfl ?_
          refine ga_iload_n dX11_isSameNet_65 rfl ?_
          refine hc_V (T_X11_pinsOn (30 + σ.1 81 i) q m σ (by omega) (by omega) (hk _ (by omega) (by omega))) fX11_pinsOn rfl kX11_pinsOn lkX11_111 dX11_isSameNet_66 rfl rfl rfl rfl rfl rfl rfl rfl ?_
          refine ga_icmp_eq (tgt := 74) dX11_isSameNet_69 rfl (fun c_69 => ?_) (fun c_69 => ?_)
          · refine ga_iinc (z := ((q + 1 : Nat) : Int)) (lv2 := [_, _, _, _, _, _]) dX11_isSameNet_74 (by decide) rfl rfl (by omega) (⟨by omega, by omega⟩) rfl ?_
            refine ga_goto (tgt := 32) dX11_isSameNet_77 rfl ?_
            exact k2 (all_s.mpr ⟨hz, c_69⟩)
          · refine ga_iconst dX11_isSameNet_72 ⟨by decide, by decide⟩ ?_
            refine ga_ret (v := some _) ?_ rfl (by decide) (by decide) ⟨dX11_isSameNet_73, _, rfl, rfl⟩
            exact ⟨tvf (fun w => c_69 (w.2 i hi q hq)), rfl⟩
/-- a pair of devices holds -/
def gdP (σ : ga_S) (d : Int) : Prop := σ.1 78 d ≠ -1 ∧ σ.1 68 (30 + σ.1 78 d) = 0 ∧ σ.1 66 d = σ.1 66 (30 + σ.1 78 d) ∧ agP σ d (30 + σ.1 78 d)
/-- a pair of nets holds -/
def gnP (σ : ga_S) (D : Nat) (k : Int) : Prop := σ.1 79 k ≠ -1 ∧ uS σ 1 (σ.1 79 k) ∧ σ.1 64 k = σ.1 64 (40 + σ.1 79 k) ∧ ∀ d : Int, 0 ≤ d → d < D → σ.1 68 d = 0 → ∀ g : Nat, g < 4 → pO σ d g k = pO σ (30 + σ.1 78 d) g (σ.1 79 k)
def teP (σ : ga_S) (N D M E : Nat) : Prop := σ.1 63 18 ≠ 0 ∧ (∀ d : Int, 0 ≤ d → d < D → σ.1 68 d = 0 → gdP σ d) ∧ lnC σ 30 = liC σ 1 E ∧ (∀ k : Int, 0 ≤ k → k < N → uS σ 0 k → gnP σ D k) ∧ usC σ 0 N = usC σ 1 M
abbrev TE1 : List Nat := [63, 80, 81]
def TEo (σ τ : ga_S) (L : Int) : Prop := exc TE1 σ τ ∧ τ.1 63 0 = 0 ∧ τ.1 63 22 = L ∧ (∀ j : Int, j ≠ 0 → j ≠ 22 → τ.1 63 j = σ.1 63 j) ∧ ∀ q : Int, 0 ≤ q → q < L → τ.1 80 q = ln σ q ∧ τ.1 81 q = σ.1 78 (ln σ q)
theorem W_tested_N (σ τ : ga_S) (N D M E : Nat) (hw : wfR σ N D M E) (hnp : ∀ k : Int, 0 ≤ k → k < N → -1 ≤ σ.1 79 k ∧ σ.1 79 k < 40) (h1 : ∀ d : Int, 0 ≤ d → d < D → σ.1 68 d = 0 → gdP σ d ∧ 0 ≤ σ.1 78 d ∧ σ.1 78 d < 30) (h18 : σ.1 63 18 ≠ 0) (hln : lnC σ 30 = liC σ 1 E) (ht : TEo σ τ (lnC σ 30)) (y1 : Int) (y2 y3 : Option ga_V) : ga_W 3 0 0 0 0 mX11_tested (fun v h => ∃ τ, exc TE1 σ τ ∧ τ.1 63 0 = 0 ∧ (∀ j : Int, j ≠ 0 → j ≠ 22 → τ.1 63 j = σ.1 63 j) ∧ v = some (Vi (tv (teP σ N D M E))) ∧ h = HP τ) ga_nox 155 [some (Vr 63), some (Vi y1), y2, y3] [] (HP τ) := by
  obtain ⟨_, hD, hD2, hNN, hN2, hk, _⟩ := hw.1
  obtain ⟨_, hE, hE2, hM, hM2, _, _⟩ := hw.2.1
  obtain ⟨t1, t2, t3, t4, t5⟩ := ht
  have hc : core τ = core σ := core_exc t1 (by decide)
  have e70 : τ.1 70 = σ.1 70 := t1.1 70 (by decide)
  have e65 : τ.1 65 = σ.1 65 := t1.1 65 (by decide)
  have e66 : τ.1 66 = σ.1 66 := t1.1 66 (by decide)
  have e64 : τ.1 64 = σ.1 64 := t1.1 64 (by decide)
  have e79 : τ.1 79 = σ.1 79 := t1.1 79 (by decide)
  obtain ⟨L, hL⟩ : ∃ L : Nat, lnC σ 30 = L := ⟨(lnC σ 30).toNat, by have := lnC_b σ 30; omega⟩
  have hL2 := lnC_b σ 30
  rw [hL] at t3 t5
  have lnI := fun i : Int => fun a : 0 ≤ i => fun b : i < L => ln_in (β := σ) (e := 30) (Nat.le_refl _) i a (by omega)
  have ub := fun m : Nat => sz_b (f := fun n => tv (uS σ 0 n)) (fun _ => tv_le) (n := m)
  have uC : ∀ s : Int, ∀ X : Nat, usC σ s X = sz (fun n => tv (uS σ s n)) X := fun _ _ => rfl
  have FAIL : ¬ (∀ k : Int, 0 ≤ k → k < N → uS σ 0 k → gnP σ D k) → ∀ a b c, ga_W 3 0 0 0 0 mX11_tested (fun v h => ∃ τ, exc TE1 σ τ ∧ τ.1 63 0 = 0 ∧ (∀ j : Int, j ≠ 0 → j ≠ 22 → τ.1 63 j = σ.1 63 j) ∧ v = some (Vi (tv (teP σ N D M E))) ∧ h = HP τ) ga_nox 215 [some (Vr 63), a, b, c] [] (HP τ) := by
    intro hn a b c
    refine ga_iconst dX11_tested_215 ⟨by decide, by decide⟩ ?_
    refine ga_ret (v := some _) ?_ rfl (by decide) (by decide) ⟨dX11_tested_216, _, rfl, rfl⟩
    exact ⟨τ, t1, t2, t4, tvf (fun w => hn w.2.2.2.1), rfl⟩
  -- the pairs of devices, told by the rows
  have SN : ∀ k m : Int, 0 ≤ k → k < N → m = σ.1 79 k → (snP τ k m L ↔ σ.1 64 k = σ.1 64 (40 + m) ∧ ∀ d : Int, 0 ≤ d → d < D → σ.1 68 d = 0 → ∀ g : Nat, g < 4 → pO σ d g k = pO σ (30 + σ.1 78 d) g m) := by
    intro k m k1 k2 hm
    unfold snP
    rw [e64, show pO τ = pO σ from cg pO (fun _ => rfl) hc]
    refine and_congr_right (fun _ => ⟨fun h d d1 d2 d3 g hg => ?_, fun h i hi g hg => ?_⟩)
    · have l : bL σ d := (bL_0 hD d1 (by omega)).mpr ⟨d2, d3⟩
      obtain ⟨dn, rfl⟩ : ∃ dn : Nat, d = dn := ⟨d.toNat, by omega⟩
      have la := ln_at (β := σ) (e := dn) (by omega) l
      have lb := lnC_b σ dn
      have ls := lnC_s σ dn
      rw [tv1 l] at ls
      have lm := lnC_mono σ (a := dn + 1) (b := 30) (by omega)
      have := h (lnC σ dn).toNat (by omega) g hg
      rw [Int.toNat_of_nonneg lb.1, (t5 _ lb.1 (by omega)).1, (t5 _ lb.1 (by omega)).2, la] at this
      exact this
    · have li := lnI i (by omega) (by omega)
      have l0 := (bL_0 hD li.1 (by omega)).mp li.2.2.1
      rw [(t5 i (by omega) (by omega)).1, (t5 i (by omega) (by omega)).2]
      exact h _ li.1 l0.1 l0.2 g hg
  refine ga_iconst dX11_tested_155 ⟨by decide, by decide⟩ ?_
  refine ga_istore_n (lv2 := [_, _, _, _]) dX11_tested_156 (by decide) rfl rfl ?_
  refine ga_iconst dX11_tested_157 ⟨by decide, by decide⟩ ?_
  refine ga_istore_n (lv2 := [_, _, _, _]) dX11_tested_158 (by decide) rfl rfl ?_
  refine (ga_loop N (fun i => ∀ y3, (∀ k : Int, 0 ≤ k → k < i → uS σ 0 k → gnP σ D k) → ga_W 3 0 0 0 0 mX11_tested (fun v h => ∃ τ, exc TE1 σ τ ∧ τ.1 63 0 = 0 ∧ (∀ j : Int, j ≠ 0 → j ≠ 22 → τ.1 63 j = σ.1 63 j) ∧ v = some (Vi (tv (teP σ N D M E))) ∧ h = HP τ) ga_nox 159 [some (Vr 63), some (Vi (sz (fun n => tv (uS σ 0 n)) i)), some (Vi (i : Int)), y3] [] (HP τ)) ?_ ?_ 0 (Nat.zero_le _) _ (fun k a b => by omega) : _)
  · intro y3 hall
    have U1 : ga_Mt 2 0 0 mX11_used [Vr 63, Vi 1] (HP τ) (gis (some (Vi (usC τ 1 M))) τ) ga_nox := T_X11_used 1 τ E M (Or.inr rfl) (by rw [e70]; exact hE) hE2 (by rw [e65]; exact hM) hM2
    rw [cg_usC hc] at U1
    refine ga_iload_n dX11_tested_159 rfl ?_
    refine ga_aload_n dX11_tested_160 rfl ?_
    refine hg_getR grX11_13 dX11_tested_161 rfl rfl ?_
    refine ga_iconst dX11_tested_164 ⟨by decide, by decide⟩ ?_
    refine hg_iald dX11_tested_165 rfl (by omega) (by omega) ?_
    refine ga_icmp_ge (tgt := 226) dX11_tested_166 rfl (fun c_166 => ?_) (fun c_166 => ?_)
    · refine ga_iload_n dX11_tested_226 rfl ?_
      refine ga_aload_n dX11_tested_227 rfl ?_
      refine ga_iconst dX11_tested_228 ⟨by decide, by decide⟩ ?_
      refine hc_V (U1) fX11_used rfl kX11_used lkX11_197 dX11_tested_229 rfl rfl rfl rfl rfl rfl rfl rfl ?_
      refine ga_icmp_ne (tgt := 239) dX11_tested_232 rfl (fun c_232 => ?_) (fun c_232 => ?_)
      · refine ga_iconst dX11_tested_239 ⟨by decide, by decide⟩ ?_
        refine ga_ret (v := some _) ?_ rfl (by decide) (by decide) ⟨dX11_tested_240, _, rfl, rfl⟩
        exact ⟨τ, t1, t2, t4, tvf (fun w => c_232 (by rw [← uC]; exact w.2.2.2.2)), rfl⟩
      · refine ga_iconst dX11_tested_235 ⟨by decide, by decide⟩ ?_
        refine ga_goto (tgt := 240) dX11_tested_236 rfl ?_
        refine ga_ret (v := some _) ?_ rfl (by decide) (by decide) ⟨dX11_tested_240, _, rfl, rfl⟩
        exact ⟨τ, t1, t2, t4, tvt ⟨h18, fun d a b c => (h1 d a b c).1, hln, hall, by rw [uC 0]; exact c_232⟩, rfl⟩
    · have c9 : (N : Int) < τ.1 65 0 := c_166
      rw [e65, hNN] at c9
      omega
  · intro i hi k y3 hall
    have h5 := ub i
    rw [sz_s] at k
    have US : ∀ s n : Int, uS τ s n ↔ uS σ s n := fun s n => by rw [show uS τ = uS σ from cg uS (fun _ => rfl) hc]
    have np := hnp i (by omega) (by omega)
    have I0 : ga_Mt 1 0 0 mX11_isUsed [Vr 63, Vi 0, Vi (i : Int)] (HP τ) (gis (some (Vi (tv (uS τ 0 i)))) τ) ga_nox := T_X11_isUsed 0 i τ D (Or.inl rfl) (by rw [e70]; exact hD) hD2 (by omega) (by omega)
    rw [tv_congr (US 0 i)] at I0
    refine ga_iload_n dX11_tested_159 rfl ?_
    refine ga_aload_n dX11_tested_160 rfl ?_
    refine hg_getR grX11_13 dX11_tested_161 rfl rfl ?_
    refine ga_iconst dX11_tested_164 ⟨by decide, by decide⟩ ?_
    refine hg_iald dX11_tested_165 rfl (by omega) (by omega) ?_
    refine ga_icmp_ge (tgt := 226) dX11_tested_166 rfl (fun c_166 => ?_) (fun c_166 => ?_)
    · have c9 : ¬ (i : Int) < τ.1 65 0 := c_166
      rw [e65, hNN] at c9
      omega
    · refine ga_aload_n dX11_tested_169 rfl ?_
      refine hg_getR grX11_57 dX11_tested_170 rfl rfl ?_
      refine ga_iload_n dX11_tested_173 rfl ?_
      refine hg_iald dX11_tested_174 rfl (by omega) (by omega) ?_
      rw [e79]
      refine ga_istore_n (lv2 := [_, _, _, _]) dX11_tested_175 (by decide) rfl rfl ?_
      refine ga_aload_n dX11_tested_176 rfl ?_
      refine ga_iconst dX11_tested_177 ⟨by decide, by decide⟩ ?_
      refine ga_iload_n dX11_tested_178 rfl ?_
      refine hc_V (I0) fX11_isUsed rfl kX11_isUsed lkX11_140 dX11_tested_179 rfl rfl rfl rfl rfl rfl rfl rfl ?_
      refine ga_if_ne (tgt := 188) dX11_tested_182 rfl (fun c_182 => ?_) (fun c_182 => ?_)
      · rw [tv_ne0] at c_182
        refine ga_iload_n dX11_tested_188 rfl ?_
        refine ga_iconst dX11_tested_189 ⟨by decide, by decide⟩ ?_
        refine ga_icmp_eq (tgt := 215) dX11_tested_190 rfl (fun c_190 => ?_) (fun c_190 => ?_)
        · exact FAIL (fun w => (w i (by omega) (by omega) c_182).1 c_190) _ _ _
        · have I1 : ga_Mt 1 0 0 mX11_isUsed [Vr 63, Vi 1, Vi (σ.1 79 i)] (HP τ) (gis (some (Vi (tv (uS τ 1 (σ.1 79 i))))) τ) ga_nox := T_X11_isUsed 1 (σ.1 79 i) τ E (Or.inr rfl) (by rw [e70]; exact hE) hE2 (by omega) (by omega)
          rw [tv_congr (US 1 _)] at I1
          refine ga_aload_n dX11_tested_193 rfl ?_
          refine ga_iconst dX11_tested_194 ⟨by decide, by decide⟩ ?_
          refine ga_iload_n dX11_tested_195 rfl ?_
          refine hc_V (I1) fX11_isUsed rfl kX11_isUsed lkX11_140 dX11_tested_196 rfl rfl rfl rfl rfl rfl rfl rfl ?_
          refine ga_if_eq (tgt := 215) dX11_tested_199 rfl (fun c_199 => ?_) (fun c_199 => ?_)
          · rw [tv_eq0] at c_199
            exact FAIL (fun w => c_199 (w i (by omega) (by omega) c_182).2.1) _ _ _
          · rw [tv_ne0] at c_199
            have S := SN i (σ.1 79 i) (by omega) (by omega) rfl
            refine ga_aload_n dX11_tested_202 rfl ?_
            refine ga_iload_n dX11_tested_203 rfl ?_
            refine ga_iload_n dX11_tested_204 rfl ?_
            refine ga_aload_n dX11_tested_205 rfl ?_
            refine hg_getI 22 grX11_194 dX11_tested_206 rfl rfl rfl ?_
            rw [t3]
            refine hc_V (T_X11_isSameNet i (σ.1 79 i) τ L (by omega) (by omega) (by omega) (by omega) (by omega) (fun q a b => by rw [(t5 q a b).1, (t5 q a b).2]; have li := lnI q a b; have l0 := (bL_0 hD li.1 (by omega)).mp li.2.2.1; have := (h1 _ li.1 l0.1 l0.2).2; omega) (by rw [e66]; exact hk)) fX11_isSameNet rfl kX11_isSameNet lkX11_248 dX11_tested_209 rfl rfl rfl rfl rfl rfl rfl rfl ?_
            refine ga_if_ne (tgt := 217) dX11_tested_212 rfl (fun c_212 => ?_) (fun c_212 => ?_)
            · rw [tv_ne0, S] at c_212
              have G : gnP σ D i := ⟨c_190, c_199, c_212⟩
              rw [tv1 c_182] at k
              refine ga_iinc (lv2 := [_, _, _, _]) dX11_tested_217 (by decide) rfl rfl rfl (⟨by omega, by omega⟩) rfl ?_
              refine ga_iinc (z := ((i + 1 : Nat) : Int)) (lv2 := [_, _, _, _]) dX11_tested_220 (by decide) rfl rfl (by omega) (⟨by omega, by omega⟩) rfl ?_
              refine ga_goto (tgt := 159) dX11_tested_223 rfl ?_
              refine k _ (fun q a b u => ?_)
              by_cases w : q = i
              · rw [w]; exact G
              · exact hall q a (by omega) u
            · rw [tv_eq0, S] at c_212
              exact FAIL (fun w => c_212 (w i (by omega) (by omega) c_182).2.2) _ _ _
      · rw [tv_eq0] at c_182
        rw [tvz c_182, Int.add_zero] at k
        refine ga_goto (tgt := 220) dX11_tested_185 rfl ?_
        refine ga_iinc (z := ((i + 1 : Nat) : Int)) (lv2 := [_, _, _, _]) dX11_tested_220 (by decide) rfl rfl (by omega) (⟨by omega, by omega⟩) rfl ?_
        refine ga_goto (tgt := 159) dX11_tested_223 rfl ?_
        refine k _ (fun q a b u => ?_)
        by_cases w : q = i
        · rw [w] at u; exact absurd u c_182
        · exact hall q a (by omega) u
theorem T_X11_tested (σ : ga_S) (N D M E : Nat) (hw : wfR σ N D M E) (hf : fpB σ) (hnp : ∀ k : Int, 0 ≤ k → k < N → -1 ≤ σ.1 79 k ∧ σ.1 79 k < 40) (hdp : ∀ d : Int, 0 ≤ d → d < D → -1 ≤ σ.1 78 d ∧ σ.1 78 d < E) : ga_Mt 3 0 0 mX11_tested [Vr 63] (HP σ) (fun v h => ∃ τ, exc TE1 σ τ ∧ τ.1 63 0 = 0 ∧ (∀ j : Int, j ≠ 0 → j ≠ 22 → τ.1 63 j = σ.1 63 j) ∧ v = some (Vi (tv (teP σ N D M E))) ∧ h = HP τ) ga_nox := by
  obtain ⟨_, hD, hD2, hNN, hN2, hk, hz⟩ := hw.1
  obtain ⟨_, hE, hE2, hM, hM2, _, _⟩ := hw.2.1
  have hLD := lnC_D hD hD2
  refine ga_meth [some (Vr 63), none, none, none] rfl rfl (by decide +kernel) (Nat.le_of_ble_eq_true rfl) rfl ?_
  have k18 : (cd0 σ 0).1 63 18 = σ.1 63 18 := rfl
  refine ga_aload_n dX11_tested_0 rfl ?_
  refine ga_iconst dX11_tested_1 ⟨by decide, by decide⟩ ?_
  refine hg_putI 0 gfX11_84 dX11_tested_2 rfl rfl rfl ?_
  refine ga_eqh (h2 := HP (cd0 σ 0)) rfl ?_
  refine ga_aload_n dX11_tested_5 rfl ?_
  refine hg_getI 18 grX11_214 dX11_tested_6 rfl rfl rfl ?_
  refine ga_if_ne (tgt := 14) dX11_tested_9 rfl (fun c_9 => ?_) (fun c_9 => ?_)
  rotate_left
  · rw [k18] at c_9
    refine ga_iconst dX11_tested_12 ⟨by decide, by decide⟩ ?_
    refine ga_ret (v := some _) ?_ rfl (by decide) (by decide) ⟨dX11_tested_13, _, rfl, rfl⟩
    exact ⟨cd0 σ 0, exc_st exc_r (by decide), rfl, fun j a _ => cd0_j a, tvf (fun w => w.1 c_9), rfl⟩
  rw [k18] at c_9
  refine ga_aload_n dX11_tested_14 rfl ?_
  refine ga_iconst dX11_tested_15 ⟨by decide, by decide⟩ ?_
  refine hg_putI 22 gfX11_194 dX11_tested_16 rfl rfl rfl ?_
  refine ga_iconst dX11_tested_19 ⟨by decide, by decide⟩ ?_
  refine ga_istore_n (lv2 := [_, _, _, _]) dX11_tested_20 (by decide) rfl rfl ?_
  have T0 : TEo σ (stI (cd0 σ 0) 63 (ga_up ((cd0 σ 0).1 63) 22 0)) (lnC σ (0 : Nat)) := ⟨exc_st (exc_st exc_r (by decide)) (by decide), rfl, rfl, fun j a b => (by show ga_up (ga_up (σ.1 63) 0 0) 22 0 j = _; rw [ga_up_ne _ _ b, ga_up_ne _ _ a]), fun q a b => by have : lnC σ ((0 : Nat)) = 0 := rfl; omega⟩
  refine (ga_loop D (fun i => ∀ τ y2, TEo σ τ (lnC σ i) → (∀ d : Int, 0 ≤ d → d < i → σ.1 68 d = 0 → gdP σ d ∧ 0 ≤ σ.1 78 d ∧ σ.1 78 d < 30) → ga_W 3 0 0 0 0 mX11_tested (fun v h => ∃ τ, exc TE1 σ τ ∧ τ.1 63 0 = 0 ∧ (∀ j : Int, j ≠ 0 → j ≠ 22 → τ.1 63 j = σ.1 63 j) ∧ v = some (Vi (tv (teP σ N D M E))) ∧ h = HP τ) ga_nox 21 [some (Vr 63), some (Vi (i : Int)), y2, none] [] (HP τ)) ?_ ?_ 0 (Nat.zero_le _) _ _ T0 (fun d a b => by omega) : _)
  · intro τ y2 ht hall
    rw [← hLD] at ht
    have hc : core τ = core σ := core_exc ht.1 (by decide)
    have e70 : τ.1 70 = σ.1 70 := ht.1.1 70 (by decide)
    have i22 := ht.2.2.1
    have V1 : ga_Mt 0 0 0 mX11_live [Vr 63, Vi 1] (HP τ) (gis (some (Vi (liC τ 1 E))) τ) ga_nox := T_X11_live 1 τ E (Or.inr rfl) (by rw [e70]; exact hE) hE2
    rw [cg_liC hc] at V1
    refine ga_iload_n dX11_tested_21 rfl ?_
    refine ga_aload_n dX11_tested_22 rfl ?_
    refine hg_getR grX11_30 dX11_tested_23 rfl rfl ?_
    refine ga_iconst dX11_tested_26 ⟨by decide, by decide⟩ ?_
    refine hg_iald dX11_tested_27 rfl (by omega) (by omega) ?_
    refine ga_icmp_ge (tgt := 141) dX11_tested_28 rfl (fun c_28 => ?_) (fun c_28 => ?_)
    rotate_left
    · have c_9 : (D : Int) < τ.1 70 0 := c_28
      rw [e70, hD] at c_9
      omega
    refine ga_aload_n dX11_tested_141 rfl ?_
    refine hg_getI 22 grX11_194 dX11_tested_142 rfl rfl rfl ?_
    rw [i22]
    refine ga_aload_n dX11_tested_145 rfl ?_
    refine ga_iconst dX11_tested_146 ⟨by decide, by decide⟩ ?_
    refine hc_V (V1) fX11_live rfl kX11_live lkX11_130 dX11_tested_147 rfl rfl rfl rfl rfl rfl rfl rfl ?_
    refine ga_icmp_eq (tgt := 155) dX11_tested_150 rfl (fun c_150 => ?_) (fun c_150 => ?_)
    rotate_left
    · refine ga_iconst dX11_tested_153 ⟨by decide, by decide⟩ ?_
      refine ga_ret (v := some _) ?_ rfl (by decide) (by decide) ⟨dX11_tested_154, _, rfl, rfl⟩
      exact ⟨τ, ht.1, ht.2.1, ht.2.2.2.1, tvf (fun w => c_150 w.2.2.1), rfl⟩
    exact W_tested_N σ τ N D M E hw hnp hall c_9 c_150 ht _ _ _
  · intro i hi k τ y2 ht hall
    obtain ⟨t1, t2, t3, t4, t5⟩ := ht
    have hc : core τ = core σ := core_exc t1 (by decide)
    have e70 : τ.1 70 = σ.1 70 := t1.1 70 (by decide)
    have e68 : τ.1 68 = σ.1 68 := t1.1 68 (by decide)
    have e66 : τ.1 66 = σ.1 66 := t1.1 66 (by decide)
    have e78 : τ.1 78 = σ.1 78 := t1.1 78 (by decide)
    have e67 : τ.2 67 = σ.2 67 := by rw [t1.2]
    have pr := hdp i (by omega) (by omega)
    have b0 := bL_0 (σ := σ) hD (i := i) (by omega) (by omega)
    have lb := lnC_b σ i
    rw [lnC_s] at k
    have FAIL : ¬ (σ.1 68 i = 0 → gdP σ i) → ∀ a b c, ga_W 3 0 0 0 0 mX11_tested (fun v h => ∃ τ, exc TE1 σ τ ∧ τ.1 63 0 = 0 ∧ (∀ j : Int, j ≠ 0 → j ≠ 22 → τ.1 63 j = σ.1 63 j) ∧ v = some (Vi (tv (teP σ N D M E))) ∧ h = HP τ) ga_nox 94 [some (Vr 63), a, b, c] [] (HP τ) := by
      intro hn a b c
      refine ga_iconst dX11_tested_94 ⟨by decide, by decide⟩ ?_
      refine ga_ret (v := some _) ?_ rfl (by decide) (by decide) ⟨dX11_tested_95, _, rfl, rfl⟩
      exact ⟨τ, t1, t2, t4, tvf (fun w => hn (w.2.1 i (by omega) (by omega))), rfl⟩
    have R96 : (σ.1 68 i = 0 → gdP σ i) → ga_W 3 0 0 0 0 mX11_tested (fun v h => ∃ τ, exc TE1 σ τ ∧ τ.1 63 0 = 0 ∧ (∀ j : Int, j ≠ 0 → j ≠ 22 → τ.1 63 j = σ.1 63 j) ∧ v = some (Vi (tv (teP σ N D M E))) ∧ h = HP τ) ga_nox 96 [some (Vr 63), some (Vi (i : Int)), some (Vi (σ.1 78 i)), none] [] (HP τ) := by
      intro hg
      have HALL : ∀ d : Int, 0 ≤ d → d < ((i + 1 : Nat) : Int) → σ.1 68 d = 0 → gdP σ d ∧ 0 ≤ σ.1 78 d ∧ σ.1 78 d < 30 := by
        intro d a b u
        by_cases w : d = i
        · rw [w] at u ⊢
          have g := hg u
          have := g.1
          exact ⟨g, by omega, by omega⟩
        · exact hall d a (by omega) u
      refine ga_aload_n dX11_tested_96 rfl ?_
      refine hg_getR grX11_23 dX11_tested_97 rfl rfl ?_
      refine ga_iload_n dX11_tested_100 rfl ?_
      refine hg_zald dX11_tested_101 rfl (by omega) (by omega) ?_
      refine ga_if_ne (tgt := 135) dX11_tested_102 rfl (fun c_102 => ?_) (fun c_102 => ?_)
      · rw [e68] at c_102
        have nl : ¬ bL σ i := fun w => c_102 (b0.mp w).2
        rw [tvz nl, Int.add_zero] at k
        refine ga_iinc (z := ((i + 1 : Nat) : Int)) (lv2 := [_, _, _, _]) dX11_tested_135 (by decide) rfl rfl (by omega) (⟨by omega, by omega⟩) rfl ?_
        refine ga_goto (tgt := 21) dX11_tested_138 rfl ?_
        exact k τ _ ⟨t1, t2, t3, t4, t5⟩ HALL
      · rw [e68] at c_102
        have l : bL σ i := b0.mpr ⟨by omega, c_102⟩
        have la := ln_at (β := σ) (e := i) (by omega) l
        rw [tv1 l] at k
        refine ga_aload_n dX11_tested_105 rfl ?_
        refine hg_getR grX11_60 dX11_tested_106 rfl rfl ?_
        refine ga_aload_n dX11_tested_109 rfl ?_
        refine hg_getI 22 grX11_194 dX11_tested_110 rfl rfl rfl ?_
        rw [t3]
        have j1 : (stI τ 80 (ga_up (τ.1 80) (lnC σ i) (i : Int))).1 63 22 = lnC σ i := t3
        refine ga_iload_n dX11_tested_113 rfl ?_
        refine hg_iast dX11_tested_114 rfl (by omega) (by omega) ?_
        refine ga_aload_n dX11_tested_115 rfl ?_
        refine hg_getR grX11_63 dX11_tested_116 rfl rfl ?_
        refine ga_aload_n dX11_tested_119 rfl ?_
        refine hg_getI 22 grX11_194 dX11_tested_120 rfl rfl rfl ?_
        rw [j1]
        have j2 : (stI (stI τ 80 (ga_up (τ.1 80) (lnC σ i) (i : Int))) 81 (ga_up ((stI τ 80 (ga_up (τ.1 80) (lnC σ i) (i : Int))).1 81) (lnC σ i) (σ.1 78 i))).1 63 22 = lnC σ i := t3
        refine ga_iload_n dX11_tested_123 rfl ?_
        refine hg_iast dX11_tested_124 rfl (by omega) (by omega) ?_
        refine ga_aload_n dX11_tested_125 rfl ?_
        refine ga_dup dX11_tested_126 rfl ?_
        refine hg_getI 22 grX11_194 dX11_tested_127 rfl rfl rfl ?_
        rw [j2]
        refine ga_iconst dX11_tested_130 ⟨by decide, by decide⟩ ?_
        refine ga_iadd dX11_tested_131 rfl (⟨by omega, by omega⟩) ?_
        refine hg_putI 22 gfX11_194 dX11_tested_132 rfl rfl rfl ?_
        refine ga_iinc (z := ((i + 1 : Nat) : Int)) (lv2 := [_, _, _, _]) dX11_tested_135 (by decide) rfl rfl (by omega) (⟨by omega, by omega⟩) rfl ?_
        refine ga_goto (tgt := 21) dX11_tested_138 rfl ?_
        refine k _ _ ⟨exc_st (exc_st (exc_st t1 (by decide)) (by decide)) (by decide), ?_, ?_, fun j a b => ?_, fun q a b => ?_⟩ HALL
        · show ga_up (τ.1 63) 22 (lnC σ i + 1) 0 = 0
          rw [ga_up_ne _ _ (by decide)]; exact t2
        · show ga_up (τ.1 63) 22 (lnC σ i + 1) 22 = lnC σ i + 1
          rw [ga_up_at]
        · show ga_up (τ.1 63) 22 (lnC σ i + 1) j = _
          rw [ga_up_ne _ _ b]; exact t4 j a b
        · show ga_up (τ.1 80) (lnC σ i) i q = _ ∧ ga_up (τ.1 81) (lnC σ i) (σ.1 78 i) q = _
          by_cases w : q = lnC σ i
          · rw [w, ga_up_at, ga_up_at, la]
            exact ⟨rfl, rfl⟩
          · rw [ga_up_ne _ _ w, ga_up_ne _ _ w]
            exact t5 q a (by omega)
    refine ga_iload_n dX11_tested_21 rfl ?_
    refine ga_aload_n dX11_tested_22 rfl ?_
    refine hg_getR grX11_30 dX11_tested_23 rfl rfl ?_
    refine ga_iconst dX11_tested_26 ⟨by decide, by decide⟩ ?_
    refine hg_iald dX11_tested_27 rfl (by omega) (by omega) ?_
    refine ga_icmp_ge (tgt := 141) dX11_tested_28 rfl (fun c_28 => ?_) (fun c_28 => ?_)
    · have c_9 : ¬ (i : Int) < τ.1 70 0 := c_28
      rw [e70, hD] at c_9
      omega
    · refine ga_aload_n dX11_tested_31 rfl ?_
      refine hg_getR grX11_54 dX11_tested_32 rfl rfl ?_
      refine ga_iload_n dX11_tested_35 rfl ?_
      refine hg_iald dX11_tested_36 rfl (by omega) (by omega) ?_
      rw [e78]
      refine ga_istore_n (lv2 := [_, _, _, _]) dX11_tested_37 (by decide) rfl rfl ?_
      refine ga_aload_n dX11_tested_38 rfl ?_
      refine hg_getR grX11_23 dX11_tested_39 rfl rfl ?_
      refine ga_iload_n dX11_tested_42 rfl ?_
      refine hg_zald dX11_tested_43 rfl (by omega) (by omega) ?_
      refine ga_if_ne (tgt := 96) dX11_tested_44 rfl (fun c_44 => ?_) (fun c_44 => ?_)
      · rw [e68] at c_44
        exact R96 (fun w => absurd w c_44)
      · rw [e68] at c_44
        refine ga_iload_n dX11_tested_47 rfl ?_
        refine ga_iconst dX11_tested_48 ⟨by decide, by decide⟩ ?_
        refine ga_icmp_eq (tgt := 94) dX11_tested_49 rfl (fun c_49 => ?_) (fun c_49 => ?_)
        · exact FAIL (fun w => (w c_44).1 c_49) _ _ _
        · refine ga_aload_n dX11_tested_52 rfl ?_
          refine hg_getR grX11_23 dX11_tested_53 rfl rfl ?_
          refine ga_bipush dX11_tested_56 ⟨by decide, by decide⟩ (by decide) ?_
          refine ga_iload_n dX11_tested_58 rfl ?_
          refine ga_iadd (z := (30 + σ.1 78 i)) dX11_tested_59 (by omega) (⟨by omega, by omega⟩) ?_
          refine hg_zald dX11_tested_60 rfl (by omega) (by omega) ?_
          refine ga_if_ne (tgt := 94) dX11_tested_61 rfl (fun c_61 => ?_) (fun c_61 => ?_)
          · rw [e68] at c_61
            exact FAIL (fun w => c_61 (w c_44).2.1) _ _ _
          · rw [e68] at c_61
            refine ga_aload_n dX11_tested_64 rfl ?_
            refine hg_getR grX11_16 dX11_tested_65 rfl rfl ?_
            refine ga_iload_n dX11_tested_68 rfl ?_
            refine hg_iald dX11_tested_69 rfl (by omega) (by omega) ?_
            refine ga_aload_n dX11_tested_70 rfl ?_
            refine hg_getR grX11_16 dX11_tested_71 rfl rfl ?_
            refine ga_bipush dX11_tested_74 ⟨by decide, by decide⟩ (by decide) ?_
            refine ga_iload_n dX11_tested_76 rfl ?_
            refine ga_iadd (z := (30 + σ.1 78 i)) dX11_tested_77 (by omega) (⟨by omega, by omega⟩) ?_
            refine hg_iald dX11_tested_78 rfl (by omega) (by omega) ?_
            refine ga_icmp_ne (tgt := 94) dX11_tested_79 rfl (fun c_79 => ?_) (fun c_79 => ?_)
            · rw [e66] at c_79
              exact FAIL (fun w => c_79 (w c_44).2.2.1) _ _ _
            · rw [e66] at c_79
              have l : bL σ i := b0.mpr ⟨by omega, c_44⟩
              have l2 : bL σ (30 + σ.1 78 i) := (bL_1 hE (by omega) (by omega)).mpr ⟨by omega, c_61⟩
              have AG := T_X11_isAgreed i (30 + σ.1 78 i) τ (by omega) (by omega) (by omega) (by omega) (by rw [e66]; exact hk _ (by omega) (by omega)) (by rw [e67]; exact hz _ (by omega) (by omega)) (by rw [e67]; exact hz _ (by omega) (by omega)) (by
                have h9 : fpB τ := by rw [cg_fpB hc]; exact hf
                exact h9 i (30 + σ.1 78 i) (by omega) (by omega) (by omega) (by omega) (by rw [cg_bL hc]; exact l) (by rw [cg_bL hc]; exact l2))
              rw [cg_agP hc] at AG
              refine ga_aload_n dX11_tested_82 rfl ?_
              refine ga_iload_n dX11_tested_83 rfl ?_
              refine ga_bipush dX11_tested_84 ⟨by decide, by decide⟩ (by decide) ?_
              refine ga_iload_n dX11_tested_86 rfl ?_
              refine ga_iadd (z := (30 + σ.1 78 i)) dX11_tested_87 (by omega) (⟨by omega, by omega⟩) ?_
              refine hc_V (AG) fX11_isAgreed rfl kX11_isAgreed lkX11_184 dX11_tested_88 rfl rfl rfl rfl rfl rfl rfl rfl ?_
              refine ga_if_ne (tgt := 96) dX11_tested_91 rfl (fun c_91 => ?_) (fun c_91 => ?_)
              · rw [tv_ne0] at c_91
                exact R96 (fun _ => ⟨c_49, c_61, c_79, c_91⟩)
              · rw [tv_eq0] at c_91
                exact FAIL (fun w => c_91 (w c_44).2.2.2) _ _ _
