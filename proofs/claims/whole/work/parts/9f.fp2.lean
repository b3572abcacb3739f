-- doubles: a size of nothing in series; the law's numbers
theorem inf_eq {x : UInt64} (h : SzG x) (e : ∃ s, Jvm.FP.Core.val64 x = .inf s) : x = 9218868437227405312 := by
  obtain ⟨s, e⟩ := e
  have := inf_mag e
  rw [h.lt63] at this
  unfold SzG at h
  apply UInt64.toNat_inj.mp
  rw [show (9218868437227405312 : UInt64).toNat = 9218868437227405312 from rfl]
  omega
theorem inv_0 : FP.ddiv FP.dconst1 0 = 9218868437227405312 := by decide +kernel
theorem inv_inf : FP.ddiv FP.dconst1 9218868437227405312 = 0 := by decide +kernel
theorem val_inf : Jvm.FP.Core.val64 9218868437227405312 = .inf false := by decide +kernel
theorem add_inf {y : UInt64} (hy : SzG y) : FP.dadd 9218868437227405312 y = 9218868437227405312 := by
  have h0 : SzG 9218868437227405312 := by unfold SzG; decide
  refine inf_eq (SzG_add h0 hy) ?_
  have hy2 := SzG_iff.mp hy
  have hv : Jvm.FP.Core.val64 (FP.dadd 9218868437227405312 y) = Jvm.FP.Core.round Jvm.FP.Core.b64 (Jvm.FP.Core.exactSum (Jvm.FP.Core.val64 9218868437227405312) (Jvm.FP.Core.val64 y)) := Jvm.FP.Core.val64_dadd _ y
  rw [val_inf] at hv
  cases ey : Jvm.FP.Core.val64 y with
  | nan => exact absurd ey hy2.1
  | inf t =>
    rw [ey] at hy2 hv
    have ht : t = false := hy2.2
    subst ht
    exact ⟨false, hv⟩
  | fin t d r =>
    rw [ey] at hv
    exact ⟨false, hv⟩
theorem serC_F {a b : UInt64} (ha : SzG a) (hb : SzG b) : serC a b = serF a b := by
  unfold serC
  by_cases q : dcg a FP.dconst0 ≤ 0 ∨ dcg b FP.dconst0 ≤ 0
  · rw [if_pos q]
    have z : ∀ x : UInt64, SzG x → dcg x FP.dconst0 ≤ 0 → x = 0 := by
      intro x hx h
      have k := dcl_iff hx SzG_0
      have z0 : FP.dconst0.toNat = 0 := rfl
      rw [z0] at k
      apply UInt64.toNat_inj.mp
      show x.toNat = 0
      rcases Int.lt_or_le (dcg x FP.dconst0) 0 with w | w
      · have := k.2.2.1.mp w
        omega
      · exact k.2.2.2.mp (by omega)
    rcases q with q | q
    · rw [z a ha q]
      unfold serF
      rw [inv_0, add_inf (SzG_inv hb), inv_inf]
      rfl
    · rw [z b hb q]
      unfold serF
      rw [inv_0, show FP.dadd (FP.ddiv FP.dconst1 a) 9218868437227405312 = FP.dadd 9218868437227405312 (FP.ddiv FP.dconst1 a) from Jvm.FP.Core.dadd_comm _ _, add_inf (SzG_inv ha), inv_inf]
      rfl
  · rw [if_neg q]
theorem pw_le (a b c d e f g : Nat) (h : a + b + c ≤ d + e + (f + g)) : 2 ^ a * 2 ^ b * 2 ^ c ≤ 2 ^ d * 2 ^ e * (2 ^ f * 2 ^ g) := by
  rw [← Nat.pow_add, ← Nat.pow_add, ← Nat.pow_add, ← Nat.pow_add, ← Nat.pow_add]
  exact Nat.pow_le_pow_right (by decide) h
/-- an eighth of a whole number -/
noncomputable abbrev eig (v : Int32) : UInt64 := FP.dmul (FP.i2d v) 4593671619917905920
theorem eig_n64 (v : Int32) : vf_n64 (eig v) := mul_n64 (Ka := 1056) (Kb := 1021) (Jvm.FP.Core.i2d_mag v) (by decide +kernel) (by decide) (by decide) (by decide)
theorem val_eig : Jvm.FP.Core.val64 4593671619917905920 = .fin false (2 ^ 52) (-55) := by decide +kernel
/-- below 0 or a size -/
theorem eig_or (v : Int32) : SzG (eig v) ∨ (2 ^ 63 ≤ (eig v).toNat ∧ 0 < (eig v).toNat % 2 ^ 63 ∧ (eig v).toNat % 2 ^ 63 ≤ 9218868437227405312) := by
  have hv : Jvm.FP.Core.val64 (eig v) = Jvm.FP.Core.round Jvm.FP.Core.b64 (Jvm.FP.Core.exactProduct (Jvm.FP.Core.val64 (FP.i2d v)) (.fin false (2 ^ 52) (-55))) := by
    have := Jvm.FP.Core.val64_dmul (FP.i2d v) 4593671619917905920
    rw [val_eig] at this
    exact this
  have hi : Jvm.FP.Core.val64 (FP.i2d v) = Jvm.FP.Core.round Jvm.FP.Core.b64 (Jvm.FP.Core.ofInt v.toInt) := Jvm.FP.Core.val64_i2d v
  obtain ⟨s, c, q, e⟩ := Jvm.FP.Core.i2d_fin v
  have e' : Jvm.FP.Core.val64 (FP.i2d v) = .fin s c q := e
  have hs : s = decide (v.toInt < 0) := by
    have h1 : Jvm.FP.Core.sgn (Jvm.FP.Core.val64 (FP.i2d v)) = decide (v.toInt < 0) := by
      rw [hi]
      exact Jvm.FP.Core.sgn_roundRatio _ _ _ _ _
    rw [e'] at h1
    exact h1
  have hr : Jvm.FP.Core.val64 (eig v) = Jvm.FP.Core.roundRatio Jvm.FP.Core.b64 (s != false) (c * 2 ^ 52) 1 (q + -55) := by
    rw [hv, e']
    rfl
  have nn : Jvm.FP.Core.val64 (eig v) ≠ .nan := by rw [hr]; exact Jvm.FP.Core.roundRatio_ne_nan _ _ _ _ _
  have sg : Jvm.FP.Core.sgn (Jvm.FP.Core.val64 (eig v)) = s := by
    rw [hr, Jvm.FP.Core.sgn_roundRatio]
    cases s <;> rfl
  have le := (Jvm.FP.Core.ne_nan (eig v)).mp nn
  by_cases hneg : v.toInt < 0
  · right
    rw [decide_eq_true hneg] at hs
    have b := Jvm.FP.Core.i2d_big (v := v) (by omega)
    have sb := Jvm.FP.Core.sgn_bits nn
    rw [sg, hs] at sb
    have sb2 := of_decide_eq_true sb.symm
    refine ⟨sb2, ?_, le⟩
    have ff : Jvm.FP.Core.fits Jvm.FP.Core.b64 (.fin s c q) := by rw [← e']; exact Jvm.FP.Core.val64_fits _
    have zz := Jvm.FP.Core.zmag_bits (a := FP.i2d v) (by rw [e']; intro z; cases z)
    rw [e'] at zz
    have f2 : Jvm.FP.Core.fits Jvm.FP.Core.b64 (.fin false (2 ^ 52) (-55)) := by rw [← val_eig]; exact Jvm.FP.Core.val64_fits _
    obtain ⟨p1, p2, p3⟩ := Jvm.FP.Core.product_units ff f2
    have hm := Jvm.FP.Core.mag_ge (s := (s != false)) (A := c * 2 ^ 52) (B := 1) (e := q + -55) Jvm.FP.Core.good_b64 (n := (eig v).toNat) (m := 1 * Jvm.FP.Core.b64.tails) (e0 := 2 * Jvm.FP.Core.b64.qmin) hr (by decide) (by rw [Jvm.FP.Core.qmin_b64]; decide) p2 (by rw [Jvm.FP.Core.infBits_b64, Jvm.FP.Core.tails_b64]; decide) ?_
    · rw [Jvm.FP.Core.mag_toNat64, Jvm.FP.Core.tails_b64] at hm
      omega
    · rw [p3, zz, Jvm.FP.Core.unitsOf_start (by decide), Nat.mul_one]
      have g1 : Jvm.FP.Core.unitsOf Jvm.FP.Core.b64 (1023 * Jvm.FP.Core.b64.tails) ≤ Jvm.FP.Core.unitsOf Jvm.FP.Core.b64 ((FP.i2d v).toNat % 2 ^ 63) := Jvm.FP.Core.unitsOf_le_iff.mpr (by rw [Jvm.FP.Core.tails_b64]; exact b.1)
      rw [Jvm.FP.Core.unitsOf_start (by decide)] at g1
      have g2 : Jvm.FP.Core.zmag Jvm.FP.Core.b64 (.fin false (2 ^ 52) (-55)) = 2 ^ 52 * 2 ^ 1019 := by
        unfold Jvm.FP.Core.zmag Jvm.FP.Core.inUnits
        rw [Jvm.FP.Core.qmin_b64]
        show 2 ^ 52 * 2 ^ ((-55 : Int) - -1074).toNat = _
        rw [show ((-55 : Int) - -1074).toNat = 1019 from rfl]
      rw [g2, Jvm.FP.Core.qmin_b64, Jvm.FP.Core.tails_b64]
      rw [Jvm.FP.Core.tails_b64] at g1
      refine Nat.le_trans ?_ (Nat.mul_le_mul_right _ g1)
      rw [show ((-1074 : Int) - 2 * -1074).toNat = 1074 from rfl]
      exact pw_le 52 (1 - 1) 1074 52 (1023 - 1) 52 1019 (by omega)
  · left
    rw [SzG_iff, sg, hs]
    exact ⟨nn, decide_eq_false hneg⟩
/-- what is below 0 is so to both compares -/
theorem neg_dc {x y : UInt64} (hx : 2 ^ 63 ≤ x.toNat ∧ 0 < x.toNat % 2 ^ 63 ∧ x.toNat % 2 ^ 63 ≤ 9218868437227405312) (hy : SzG y) : dcl x y < 0 := by
  have xl : x.toNat < 2 ^ 64 := x.toNat_lt
  have yl : y.toNat < 2 ^ 64 := y.toNat_lt
  have nx := (Jvm.FP.Core.ne_nan x).mpr hx.2.2
  have ny := (SzG_iff.mp hy).1
  have h := Jvm.FP.Core.cmp_key (f := Jvm.FP.Core.b64) Jvm.FP.Core.good_b64 (m := x.toNat) (n := y.toNat) (Jvm.FP.Core.lt_full64 x) (Jvm.FP.Core.lt_full64 y) nx ny
  have k1 : Jvm.FP.Core.key Jvm.FP.Core.b64 x.toNat = -((x.toNat % 2 ^ 63 : Nat) : Int) := by
    unfold Jvm.FP.Core.key Jvm.FP.Core.signed Jvm.FP.Core.mag
    rw [Jvm.FP.Core.half_b64, decide_eq_true hx.1]
    rfl
  have k2 : Jvm.FP.Core.key Jvm.FP.Core.b64 y.toNat = y.toNat := by
    unfold SzG at hy
    unfold Jvm.FP.Core.key Jvm.FP.Core.signed Jvm.FP.Core.mag
    rw [Jvm.FP.Core.half_b64, decide_eq_false (by omega), Nat.mod_eq_of_lt (by omega)]
    rfl
  rw [k1, k2] at h
  have h2 : FP.dcmp x y = some (compare (-((x.toNat % 2 ^ 63 : Nat) : Int)) (y.toNat : Int)) := h
  unfold dcl
  rw [h2, show compare (-((x.toNat % 2 ^ 63 : Nat) : Int)) (y.toNat : Int) = .lt from by rw [Int.compare_eq_lt]; omega]
  decide
