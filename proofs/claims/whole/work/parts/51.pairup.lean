-- Search: pairUp
theorem LK_cg {srt pin g pin2 g2 nets keys : Int → Int} {c : Nat} (h : LK srt pin g nets keys c 4) (e1 : ∀ k : Int, 0 ≤ k → k < 4 → pin k = pin2 k) (e2 : ∀ k : Int, 0 ≤ k → k < 4 → g k = g2 k) : LK srt pin2 g2 nets keys c 4 := by
  obtain ⟨h0, h1, h2, h3, h4⟩ := h
  refine ⟨h0, fun i a b => ?_, h2, fun k a b d => ?_, fun i a b => ?_⟩
  · obtain ⟨n, k, k1, k2, k3⟩ := h1 i a b
    exact ⟨n, k, k1, k2, by rw [← e1 k k1 k2]; exact k3⟩
  · obtain ⟨i, i1, i2, i3⟩ := h3 k a b (by rw [e1 k a b]; exact d)
    exact ⟨i, i1, i2, by rw [← e1 k a b]; exact i3⟩
  · rw [h4 i a b, sz_congr (f := fun k => tv (pin k = nets i) * pw8 (g k)) (g := fun k => tv (pin2 k = nets i) * pw8 (g2 k)) (fun k hk => by show tv (pin k = nets i) * pw8 (g k) = tv (pin2 k = nets i) * pw8 (g2 k); rw [e1 k (by omega) (by omega), e2 k (by omega) (by omega)])]
def agH (sh : Int → UInt64) (β : ga_S) : Prop := ∀ k : Int, 0 ≤ k → k < 8 → sh k = β.2 72 k
def agP (β : ga_S) (x y : Int) : Prop := dcg (FP.dsub (sgr (β.2 67 x) (β.2 67 y)) (sls (β.2 67 x) (β.2 67 y))) (FP.dmul (β.2 72 (β.1 66 x)) (sgr (β.2 67 x) (β.2 67 y))) ≤ 0
def fpB (β : ga_S) : Prop := ∀ x y : Int, 0 ≤ x → x < 60 → 0 ≤ y → y < 60 → bL β x → bL β y → vf_n64 (FP.dsub (sgr (β.2 67 x) (β.2 67 y)) (sls (β.2 67 x) (β.2 67 y))) ∧ vf_n64 (FP.dmul (β.2 72 (β.1 66 x)) (sgr (β.2 67 x) (β.2 67 y)))
theorem agF_at {i : Int} {cnt port kind gone pins : Int → Int} {sizes : Int → UInt64} {β : ga_S} {N D : Nat} (h : agF i cnt port kind gone pins sizes β N D) (hi : 0 ≤ i ∧ i < 2) {x : Int} (h1 : 0 ≤ x) (h2 : x < 30) (hl : bL β (30 * i + x)) : x < D ∧ kind x = β.1 66 (30 * i + x) ∧ 0 ≤ kind x ∧ kind x < 8 ∧ sizes x = β.2 67 (30 * i + x) ∧ (∀ k : Int, 0 ≤ k → k < 4 → pins (x * 4 + k) = β.1 69 (4 * (30 * i + x) + k)) ∧ (∀ k : Int, 0 ≤ k → k < 4 → β.1 69 (4 * (30 * i + x) + k) ≠ -1 → bU β (40 * i + β.1 69 (4 * (30 * i + x) + k)) ∧ 0 ≤ β.1 69 (4 * (30 * i + x) + k) ∧ β.1 69 (4 * (30 * i + x) + k) < 40) := by
  have hx : x < D := by
    rcases Int.lt_or_le x D with q | q
    · exact q
    · exact absurd hl (agF_dead h q h2)
  have hz := fun k : Int => fun k1 : 0 ≤ k => fun k2 : k < 4 => agF_pin h (z := 4 * (30 * i + x) + k) (by omega) (by omega) (by rw [show (4 * (30 * i + x) + k) / 4 = 30 * i + x by omega]; exact hl)
  obtain ⟨⟨hcN, hN2, hcD, hD2, hkd, hsz, hpin⟩, hbN, hbD, hport, hdev, hpb⟩ := h
  refine ⟨hx, (hdev x h1 hx).1, (hkd x h1 hx).1, (hkd x h1 hx).2, (hdev x h1 hx).2.2, fun k k1 k2 => ?_, fun k k1 k2 k3 => ?_⟩
  · rw [hpb (x * 4 + k) (by omega) (by omega), show 120 * i + (x * 4 + k) = 4 * (30 * i + x) + k by omega]
  · have := hz k k1 k2
    exact ⟨this.2.2.2.2.2.2 k3, by omega, by omega⟩
theorem gB_at {β : ga_S} {x k : Int} (k1 : 0 ≤ k) (k2 : k < 4) : gB β (4 * x + k) = β.1 71 (β.1 66 x * 4 + k) := by
  unfold gB
  rw [show (4 * x + k) / 4 = x by omega, show (4 * x + k) % 4 = k by omega]
theorem rst_val {nets bef s s0 : Int → Int} {b : Int} {c : Nat} (h : ∀ i : Int, 0 ≤ i → i < c → bef (b + i) = s0 (nets (b + i))) (h2 : ∀ x : Int, (∀ i : Int, 0 ≤ i → i < c → nets (b + i) ≠ x) → s x = s0 x) : rstF nets bef b c s = s0 := by
  have key : ∀ e : Nat, e ≤ c → ∀ x : Int, (rstF nets bef b e s x = s0 x ∨ rstF nets bef b e s x = s x) ∧ ((∃ i : Int, 0 ≤ i ∧ i < e ∧ nets (b + i) = x) → rstF nets bef b e s x = s0 x) := by
    intro e
    induction e with
    | zero => intro _ x; exact ⟨Or.inr rfl, fun ⟨i, a, b, _⟩ => by omega⟩
    | succ e ih =>
      intro he x
      have r := ih (by omega) x
      have e0 : rstF nets bef b (e + 1) s = ga_up (rstF nets bef b e s) (nets (b + e)) (bef (b + e)) := rfl
      rw [e0]
      by_cases q : x = nets (b + e)
      · rw [q, ga_up_at]
        exact ⟨Or.inl (h e (by omega) (by omega)), fun _ => h e (by omega) (by omega)⟩
      · rw [ga_up_ne _ _ q]
        refine ⟨r.1, fun ⟨i, a, d, g⟩ => r.2 ⟨i, a, ?_, g⟩⟩
        rcases Int.lt_or_le i e with z | z
        · exact z
        · exact absurd (by rw [← g, show i = e by omega]) q
  funext x
  have k := key c (Nat.le_refl _) x
  by_cases q : ∃ i : Int, 0 ≤ i ∧ i < c ∧ nets (b + i) = x
  · exact k.2 q
  · rcases k.1 with z | z
    · exact z
    · rw [z]
      exact h2 x (fun i a d g => q ⟨i, a, d, g⟩)
abbrev PU : List Nat := [41, 42, 43, 44, 45, 46, 47, 48, 49, 50, 51, 52, 53, 54]
/-- what pairUp leaves where the pair stands -/
def PUy (β : ga_S) (ch : Int → Int) (p e : Int) (σ τ : ga_S) : Prop := SR β ch (p + 1) (τ.1 43) (τ.1 47) ∧ τ.1 41 = ga_up (σ.1 41) e 1 ∧ ∃ c : Nat, c ≤ 4 ∧ τ.1 51 = ga_up (σ.1 51) p c ∧ (∀ j : Int, j < p * 4 → τ.1 52 j = σ.1 52 j ∧ τ.1 53 j = σ.1 53 j ∧ τ.1 54 j = σ.1 54 j) ∧ (∀ i : Int, 0 ≤ i → i < c → 0 ≤ τ.1 52 (p * 4 + i) ∧ τ.1 52 (p * 4 + i) < 40 ∧ 0 ≤ τ.1 53 (p * 4 + i) ∧ τ.1 53 (p * 4 + i) < 40) ∧ rstF (τ.1 52) (τ.1 54) (p * 4) c (τ.1 43) = σ.1 43 ∧ rstF (τ.1 53) (τ.1 54) (p * 4) c (τ.1 47) = σ.1 47
theorem T_X8_pairUp (p e : Int) (σ β : ga_S) (ch : Int → Int) (N D M E : Nat) (hd : dsg σ β N D M E) (hh : agH (σ.2 18) β) (hf : fpB β) (p1 : 0 ≤ p) (p2 : p < 30) (hln : σ.1 39 p = ln β p) (l1 : 0 ≤ ln β p) (l2 : ln β p < 30) (hl : bL β (ln β p)) (e1 : 0 ≤ e) (e2 : e < 30) (he : bL β (30 + e)) (hch : ch p = e) (hs : SR β ch p (σ.1 43) (σ.1 47)) (hv : EV β ch p) : ga_Mt 2 0 0 mX8_pairUp [Vr 38, Vr 1, Vi p, Vi e] (HP σ) (fun v h => ∃ τ, exc PU σ τ ∧ h = HP τ ∧ (((agP β (ln β p) (30 + e) ∧ EV β ch (p + 1)) ∧ v = some (Vi 1) ∧ PUy β ch p e σ τ) ∨ (¬ (agP β (ln β p) (30 + e) ∧ EV β ch (p + 1)) ∧ v = some (Vi 0) ∧ exc [42, 44, 45, 46, 48, 49, 50] σ τ))) ga_nox := by
  have h1 := hd.1
  have h2 := hd.2.1
  have hg := hd.2.2.1
  have a1 := agF_at h1 (by decide) l1 l2 (by rw [show 30 * 0 + ln β p = ln β p by omega]; exact hl)
  have a2 := agF_at h2 (by decide) e1 e2 (by rw [show 30 * 1 + e = 30 + e by omega]; exact he)
  rw [show 30 * 0 + ln β p = ln β p by omega] at a1
  rw [show 30 * 1 + e = 30 + e by omega] at a2
  obtain ⟨x1, x2, x3, x4, x5, x6, x7⟩ := a1
  obtain ⟨y1, y2, y3, y4, y5, y6, y7⟩ := a2
  have hk := x2
  have hfp := hf (ln β p) (30 + e) l1 (by omega) (by omega) (by omega) hl he
  have hsh := hh (σ.1 5 (ln β p)) x3 x4
  have AG : dcg (FP.dsub (sgr (σ.2 6 (ln β p)) (σ.2 13 e)) (sls (σ.2 6 (ln β p)) (σ.2 13 e))) (FP.dmul (σ.2 18 (σ.1 5 (ln β p))) (sgr (σ.2 6 (ln β p)) (σ.2 13 e))) ≤ 0 ↔ agP β (ln β p) (30 + e) := by
    rw [x5, y5, hsh, hk]
    exact Iff.rfl
  have N1 : vf_n64 (FP.dsub (sgr (σ.2 6 (ln β p)) (σ.2 13 e)) (sls (σ.2 6 (ln β p)) (σ.2 13 e))) := by rw [x5, y5]; exact hfp.1
  have N2 : vf_n64 (FP.dmul (σ.2 18 (σ.1 5 (ln β p))) (sgr (σ.2 6 (ln β p)) (σ.2 13 e))) := by rw [x5, y5, hsh, hk]; exact hfp.2
  refine ga_meth [some (Vr 38), some (Vr 1), some (Vi p), some (Vi e), none, none, none, none] rfl rfl (by decide +kernel) (Nat.le_of_ble_eq_true rfl) rfl ?_
  refine ga_aload_n dX8_pairUp_0 rfl ?_
  refine hg_getR grX8_15 dX8_pairUp_1 rfl rfl ?_
  refine ga_iload_n dX8_pairUp_4 rfl ?_
  refine hg_iald dX8_pairUp_5 rfl (by omega) (by omega) ?_
  rw [hln]
  refine ga_istore (lv2 := [_, _, _, _, _, _, _, _]) dX8_pairUp_6 (by decide) rfl rfl ?_
  refine ga_aload_n dX8_pairUp_8 rfl ?_
  refine hg_getR grX8_77 dX8_pairUp_9 rfl rfl ?_
  refine hg_getR grX8_138 dX8_pairUp_12 rfl rfl ?_
  refine ga_iload dX8_pairUp_15 rfl ?_
  refine hg_dald dX8_pairUp_17 rfl (by omega) (by omega) ?_
  refine ga_dstore (lv2 := [_, _, _, _, _, _, _, _]) dX8_pairUp_18 (by decide) rfl rfl ?_
  refine ga_aload_n dX8_pairUp_20 rfl ?_
  refine hg_getR grX8_77 dX8_pairUp_21 rfl rfl ?_
  refine hg_getR grX8_142 dX8_pairUp_24 rfl rfl ?_
  refine ga_iload dX8_pairUp_27 rfl ?_
  refine hg_iald dX8_pairUp_29 rfl (by omega) (by omega) ?_
  refine ga_istore (lv2 := [_, _, _, _, _, _, _, _]) dX8_pairUp_30 (by decide) rfl rfl ?_
  refine ga_aload_n dX8_pairUp_32 rfl ?_
  refine hg_getR grX8_145 dX8_pairUp_33 rfl rfl ?_
  refine ga_iload dX8_pairUp_36 rfl ?_
  refine ga_dload dX8_pairUp_38 rfl ?_
  refine ga_aload_n dX8_pairUp_40 rfl ?_
  refine hg_getR grX8_91 dX8_pairUp_41 rfl rfl ?_
  refine hg_getR grX8_138 dX8_pairUp_44 rfl rfl ?_
  refine ga_iload_n dX8_pairUp_47 rfl ?_
  refine hg_dald dX8_pairUp_48 rfl (by omega) (by omega) ?_
  refine hc_V (T_X4_sizesAgree (σ.1 5 (ln β p)) _ _ σ x3 x4 N1 N2) fX4_sizesAgree rfl kX4_sizesAgree lkX8_149 dX8_pairUp_49 rfl rfl rfl rfl rfl rfl rfl rfl ?_
  refine ga_if_ne (tgt := 57) dX8_pairUp_52 rfl (fun c_52 => ?_) (fun c_52 => ?_)
  · rw [tv_ne0, AG] at c_52
    have Q1 : ∀ k : Int, 0 ≤ k → k < 4 → σ.1 8 (ln β p * 4 + k) ≠ -1 → 0 ≤ σ.1 8 (ln β p * 4 + k) ∧ σ.1 8 (ln β p * 4 + k) < 40 ∧ 0 ≤ σ.1 43 (σ.1 8 (ln β p * 4 + k)) ∧ σ.1 43 (σ.1 8 (ln β p * 4 + k)) < 200 := by
      intro k k1 k2 k3
      rw [x6 k k1 k2] at k3 ⊢
      have u := x7 k k1 k2 k3
      rw [show 40 * 0 + β.1 69 (4 * ln β p + k) = β.1 69 (4 * ln β p + k) by omega] at u
      have r := hs.2 _ u.2.1 (by omega) u.1
      unfold sT at r
      rw [if_pos u.2.2] at r
      exact ⟨u.2.1, u.2.2, r.1, by omega⟩
    refine ga_aload_n dX8_pairUp_57 rfl ?_
    refine hg_getR grX8_29 dX8_pairUp_58 rfl rfl ?_
    refine ga_aload_n dX8_pairUp_61 rfl ?_
    refine hg_getR grX8_77 dX8_pairUp_62 rfl rfl ?_
    refine ga_aload_n dX8_pairUp_65 rfl ?_
    refine hg_getR grX8_145 dX8_pairUp_66 rfl rfl ?_
    refine ga_iload dX8_pairUp_69 rfl ?_
    refine hc_VP (T_X6_lookAt_42 (ln β p) σ l1 l2 ⟨x3, x4⟩ (fun k k1 k2 => by have := hg (σ.1 5 (ln β p) * 4 + k) (by omega) (by omega); omega) Q1) fX6_lookAt rfl kX6_lookAt lkX8_155 dX8_pairUp_71 rfl rfl rfl rfl rfl rfl rfl rfl ?_
    rintro v h ⟨τ1, c1, w1, w2, w3, w4, w5⟩
    rw [w4, w5]
    have LK1 := LK_cg (pin2 := fun k => β.1 69 (4 * ln β p + k)) (g2 := fun k => gB β (4 * ln β p + k)) w3 x6 (fun k k1 k2 => by rw [gB_at k1 k2, (hg (σ.1 5 (ln β p) * 4 + k) (by omega) (by omega)).1, hk])
    have t47 := w1.1 47 (by decide)
    have t15 := w1.1 15 (by decide)
    have t12 := w1.1 12 (by decide)
    have t17 := w1.1 17 (by decide)
    have Q2 : ∀ k : Int, 0 ≤ k → k < 4 → τ1.1 15 (e * 4 + k) ≠ -1 → 0 ≤ τ1.1 15 (e * 4 + k) ∧ τ1.1 15 (e * 4 + k) < 40 ∧ 0 ≤ τ1.1 47 (τ1.1 15 (e * 4 + k)) ∧ τ1.1 47 (τ1.1 15 (e * 4 + k)) < 200 := by
      intro k k1 k2 k3
      rw [t15, y6 k k1 k2] at k3 ⊢
      rw [t47]
      have u := y7 k k1 k2 k3
      rw [show 40 * 1 + β.1 69 (4 * (30 + e) + k) = 40 + β.1 69 (4 * (30 + e) + k) by omega] at u
      have r := hs.2 _ (by omega) (by omega) u.1
      unfold sT at r
      rw [if_neg (by omega), show 40 + β.1 69 (4 * (30 + e) + k) - 40 = β.1 69 (4 * (30 + e) + k) by omega] at r
      exact ⟨u.2.1, u.2.2, r.1, by omega⟩
    have Q3 : ∀ k : Int, 0 ≤ k → k < 4 → 0 ≤ τ1.1 17 (τ1.1 12 e * 4 + k) ∧ τ1.1 17 (τ1.1 12 e * 4 + k) < 4 := by
      intro k k1 k2
      rw [t12, t17]
      have := hg (σ.1 12 e * 4 + k) (by omega) (by omega)
      omega
    refine ga_aload_n dX8_pairUp_74 rfl ?_
    refine hg_getR grX8_33 dX8_pairUp_75 rfl rfl ?_
    refine ga_aload_n dX8_pairUp_78 rfl ?_
    refine hg_getR grX8_91 dX8_pairUp_79 rfl rfl ?_
    refine ga_aload_n dX8_pairUp_82 rfl ?_
    refine hg_getR grX8_145 dX8_pairUp_83 rfl rfl ?_
    refine ga_iload_n dX8_pairUp_86 rfl ?_
    refine hc_VP (T_X6_lookAt_46 e τ1 e1 e2 (by rw [t12]; exact ⟨y3, y4⟩) Q3 Q2) fX6_lookAt rfl kX6_lookAt lkX8_155 dX8_pairUp_87 rfl rfl rfl rfl rfl rfl rfl rfl ?_
    rintro v h ⟨τ2, c2, z1, z2, z3, z4, z5⟩
    rw [z4, z5]
    rw [t47, t15, t12, t17] at z3
    have LK2 := LK_cg (pin2 := fun k => β.1 69 (4 * (30 + e) + k)) (g2 := fun k => gB β (4 * (30 + e) + k)) z3 y6 (fun k k1 k2 => by rw [gB_at k1 k2, (hg (σ.1 12 e * 4 + k) (by omega) (by omega)).1, y2])
    have u42 : τ2.1 42 1 = c1 := by rw [z1.1 42 (by decide)]; exact w2
    have u44 := z1.1 44 (by decide)
    have u45 := z1.1 45 (by decide)
    have hL : lkd β ch (σ.1 43) (σ.1 47) (τ2.1 44) (τ2.1 45) (τ2.1 48) (τ2.1 49) p c1 c2 := by
      rw [u44, u45]
      refine ⟨LK1, by rw [hch]; exact LK2, fun k k1 k2 k3 => ?_, fun k k1 k2 k3 => ?_⟩
      · have u := x7 k k1 k2 k3
        rw [show 40 * 0 + β.1 69 (4 * ln β p + k) = β.1 69 (4 * ln β p + k) by omega] at u
        exact u
      · rw [hch] at k3 ⊢
        have u := y7 k k1 k2 k3
        rw [show 40 * 1 + β.1 69 (4 * (30 + e) + k) = 40 + β.1 69 (4 * (30 + e) + k) by omega] at u
        exact u
    have x02 : exc [42, 44, 45, 46, 48, 49, 50] σ τ2 := exc_tr w1 z1 (by decide) (by decide)
    refine ga_aload_n dX8_pairUp_90 rfl ?_
    refine hc_VP (T_X8_findMates τ2 c1 c2 u42 z2 LK1.1 LK2.1) fX8_findMates rfl kX8_findMates lkX8_159 dX8_pairUp_91 rfl rfl rfl rfl rfl rfl rfl rfl ?_
    rintro v h ⟨τ3, f1, f2, (⟨f3, f4, f5, f6⟩ | ⟨f3, f6⟩)⟩
    · rw [f2, f6]
      have m44 := f1.1 44 (by decide)
      have m45 := f1.1 45 (by decide)
      have m48 := f1.1 48 (by decide)
      have m49 := f1.1 49 (by decide)
      have m43 : τ3.1 43 = σ.1 43 := by rw [f1.1 43 (by decide), x02.1 43 (by decide)]
      have m47 : τ3.1 47 = σ.1 47 := by rw [f1.1 47 (by decide), x02.1 47 (by decide)]
      have m51 : τ3.1 51 = σ.1 51 := by rw [f1.1 51 (by decide), x02.1 51 (by decide)]
      have m52 : τ3.1 52 = σ.1 52 := by rw [f1.1 52 (by decide), x02.1 52 (by decide)]
      have m53 : τ3.1 53 = σ.1 53 := by rw [f1.1 53 (by decide), x02.1 53 (by decide)]
      have m54 : τ3.1 54 = σ.1 54 := by rw [f1.1 54 (by decide), x02.1 54 (by decide)]
      have m41 : τ3.1 41 = σ.1 41 := by rw [f1.1 41 (by decide), x02.1 41 (by decide)]
      have EVn := pair_EV p1 hs hv hL f3 f4 f5
      have c4 : c1 ≤ 4 := LK1.1
      have D2 : ∀ i j : Int, 0 ≤ i → i < c1 → 0 ≤ j → j < c1 → τ2.1 48 (τ3.1 50 i) = τ2.1 48 (τ3.1 50 j) → i = j := fun i j a b d g q => f4.2 i j a b d g (by
        have := f4.1 i a b
        have := f4.1 j d g
        exact LK2.2.2.1 _ _ (by omega) (by omega) (by omega) (by omega) q)
      refine ga_if_ne (tgt := 99) dX8_pairUp_94 rfl (fun c_94 => ?_) (fun c_94 => ?_)
      · have Q4 : ∀ i : Int, 0 ≤ i → i < c1 → 0 ≤ τ3.1 44 i ∧ τ3.1 44 i < 40 := by
          intro i a b
          rw [m44]
          have := key1_is hL a b
          exact ⟨this.1, this.2.1⟩
        have Q5 : ∀ i : Int, 0 ≤ i → i < c1 → 0 ≤ τ3.1 50 i ∧ τ3.1 50 i < 4 ∧ 0 ≤ τ3.1 48 (τ3.1 50 i) ∧ τ3.1 48 (τ3.1 50 i) < 40 := by
          intro i a b
          rw [m48]
          have mi := f4.1 i a b
          have := key2_is hL (i := τ3.1 50 i) (by omega) (by omega)
          exact ⟨mi.1, by omega, this.1, this.2.1⟩
        refine ga_aload_n dX8_pairUp_99 rfl ?_
        refine ga_iload_n dX8_pairUp_100 rfl ?_
        refine hc_VP (T_X8_changeSorts p τ3 c1 p1 p2 (by rw [f1.1 42 (by decide)]; exact u42) c4 Q4 Q5 (fun i j a b d g q => by rw [m44] at q; exact hL.1.2.2.1 i j a b d g q) (by rw [m48]; exact D2)) fX8_changeSorts rfl kX8_changeSorts lkX8_163 dX8_pairUp_101 rfl rfl rfl rfl rfl rfl rfl rfl ?_
        rintro v h ⟨τ4, g1, g2, g3, g4, g5, g6, g7, g8, g9⟩
        rw [g8, g9]
        rw [m44, m52] at g3
        rw [m48, m53] at g4
        rw [m43, m44, m54] at g5
        rw [m44, m45, m43] at g6
        rw [m48, m45, m47] at g7
        refine ga_aload_n dX8_pairUp_104 rfl ?_
        refine hg_getR grX8_22 dX8_pairUp_105 rfl rfl ?_
        refine ga_iload_n dX8_pairUp_108 rfl ?_
        refine ga_iconst dX8_pairUp_109 ⟨by decide, by decide⟩ ?_
        refine hg_zast dX8_pairUp_110 rfl (by omega) (by omega) (by omega) ?_
        refine ga_iconst dX8_pairUp_111 ⟨by decide, by decide⟩ ?_
        refine ga_ret (v := some _) ?_ rfl (by decide) (by decide) ⟨dX8_pairUp_112, _, rfl, rfl⟩
        have SRn := pair_SR p1 hs hL f3 f4 f5 g6 g7
        refine ⟨stI τ4 41 (ga_up (τ4.1 41) e 1), exc_st (exc_tr (exc_tr x02 f1 (L := PU) (by decide) (by decide)) g1 (by decide) (by decide)) (by decide), rfl, Or.inl ⟨⟨c_52, EVn⟩, rfl, SRn, ?_, c1, c4, ?_, ?_, ?_, ?_, ?_⟩⟩
        · show ga_up (τ4.1 41) e 1 = _
          rw [g1.1 41 (by decide), m41]
        · show τ4.1 51 = _
          rw [g2, m51]
        · intro j hj
          exact ⟨g3.1 j (Or.inl hj), g4.1 j (Or.inl hj), g5.1 j (Or.inl hj)⟩
        · intro i a b
          show 0 ≤ τ4.1 52 (p * 4 + i) ∧ τ4.1 52 (p * 4 + i) < 40 ∧ 0 ≤ τ4.1 53 (p * 4 + i) ∧ τ4.1 53 (p * 4 + i) < 40
          rw [g3.2 i a b, g4.2 i a b]
          have k1 := key1_is hL a b
          have mi := f4.1 i a b
          have k2 := key2_is hL (i := τ3.1 50 i) (by omega) (by omega)
          exact ⟨k1.1, k1.2.1, k2.1, k2.2.1⟩
        · show rstF (τ4.1 52) (τ4.1 54) (p * 4) c1 (τ4.1 43) = σ.1 43
          refine rst_val (fun i a b => ?_) (fun x hx => ?_)
          · rw [g5.2 i a b, g3.2 i a b]
          · exact g6.1 x (fun i a b => by have := hx i a b; rw [g3.2 i a b] at this; exact this)
        · show rstF (τ4.1 53) (τ4.1 54) (p * 4) c1 (τ4.1 47) = σ.1 47
          refine rst_val (fun i a b => ?_) (fun x hx => ?_)
          · rw [g5.2 i a b, g4.2 i a b]
            have k1 := key1_is hL a b
            have mi := f4.1 i a b
            have k2 := key2_is hL (i := τ3.1 50 i) (by omega) (by omega)
            have q := f5 i a b
            rw [k1.2.2.2.1, k2.2.2.2.1] at q
            have v1 := kV_b (β := β) (x := dv β ch p (τ2.1 44 i)) (n := τ2.1 44 i % 40)
            have v2 := kV_b (β := β) (x := dv β ch p (40 + τ2.1 48 (τ3.1 50 i))) (n := (40 + τ2.1 48 (τ3.1 50 i)) % 40)
            unfold Kx sT at q
            rw [if_pos k1.2.1, if_neg (by omega), show 40 + τ2.1 48 (τ3.1 50 i) - 40 = τ2.1 48 (τ3.1 50 i) by omega] at q
            show σ.1 43 (τ2.1 44 i) = σ.1 47 (τ2.1 48 (τ3.1 50 i))
            omega
          · exact g7.1 x (fun i a b => by have := hx i a b; rw [g4.2 i a b] at this; exact this)
      · exact absurd c_94 (by decide)
    · rw [f2, f6]
      have no := pair_no p1 p2 hs hL f3
      refine ga_if_ne (tgt := 99) dX8_pairUp_94 rfl (fun c_94 => ?_) (fun c_94 => ?_)
      · exact absurd rfl c_94
      · refine ga_iconst dX8_pairUp_97 ⟨by decide, by decide⟩ ?_
        refine ga_ret (v := some _) ?_ rfl (by decide) (by decide) ⟨dX8_pairUp_98, _, rfl, rfl⟩
        have x03 : exc [42, 44, 45, 46, 48, 49, 50] σ τ3 := exc_tr x02 f1 (fun _ z => z) (by decide)
        exact ⟨τ3, exc_m x03 (by decide), rfl, Or.inr ⟨fun z => no z.2, rfl, x03⟩⟩
  · rw [tv_eq0, AG] at c_52
    refine ga_iconst dX8_pairUp_55 ⟨by decide, by decide⟩ ?_
    refine ga_ret (v := some _) ?_ rfl (by decide) (by decide) ⟨dX8_pairUp_56, _, rfl, rfl⟩
    exact ⟨σ, exc_r, rfl, Or.inr ⟨fun z => c_52 z.1, rfl, exc_r⟩⟩
