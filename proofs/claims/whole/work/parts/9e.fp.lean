-- doubles: bounds that a joining keeps, no NaN in what is compared
/-- below 2^(K-1023) -/
def dLt (a : UInt64) (K : Nat) : Prop := a.toNat < K * 2 ^ 52
theorem dLt.mod {a : UInt64} {K : Nat} (h : dLt a K) (hK : K ≤ 2047) : a.toNat % 2 ^ 63 < K * 2 ^ 52 := by
  unfold dLt at h
  rw [Nat.mod_eq_of_lt (by omega)]
  exact h
theorem dLt.good {a : UInt64} {K : Nat} (h : dLt a K) (hK : K ≤ 2047) : SzG a := by
  unfold dLt at h
  unfold SzG
  omega
theorem SzG.lt63 {a : UInt64} (h : SzG a) : a.toNat % 2 ^ 63 = a.toNat := by
  unfold SzG at h
  exact Nat.mod_eq_of_lt (by omega)
theorem n64_of {x : UInt64} (h : x.toNat % 2 ^ 63 ≤ 9218868437227405312) : vf_n64 x := by
  unfold vf_n64
  rw [UInt64.le_iff_toNat_le, UInt64.toNat_and, show (0x7fffffffffffffff : UInt64).toNat = 2 ^ 63 - 1 from by decide, Nat.and_two_pow_sub_one_eq_mod]
  exact h
theorem add_lt {a b : UInt64} {K : Nat} (ha : dLt a K) (hb : dLt b K) (hK : K + 2 ≤ 2047) : dLt (FP.dadd a b) (K + 2) := by
  have h := Jvm.FP.Core.dadd_mag (ha.mod (by omega)) (hb.mod (by omega)) (by omega : K ≤ 2047)
  have s := SzG_add (ha.good (by omega)) (hb.good (by omega))
  unfold dLt
  rw [← s.lt63]
  exact h
theorem sub_n64 {a b : UInt64} {K : Nat} (ha : dLt a K) (hb : dLt b K) (hK : K + 2 ≤ 2047) : vf_n64 (FP.dsub a b) := by
  have h := Jvm.FP.Core.dsub_mag (ha.mod (by omega)) (hb.mod (by omega)) (by omega : K ≤ 2047)
  have h2 : (FP.dsub a b).toNat % 2 ^ 63 < (K + 2) * 2 ^ 52 := h
  exact n64_of (by omega)
theorem mul_n64 {a b : UInt64} {Ka Kb : Nat} (ha : a.toNat % 2 ^ 63 < Ka * 2 ^ 52) (hb : b.toNat % 2 ^ 63 < Kb * 2 ^ 52) (hKa : Ka ≤ 2047) (hKb : Kb ≤ 2047) (h : Ka + Kb - 1025 + 3 ≤ 2047) : vf_n64 (FP.dmul a b) := by
  have h1 := Jvm.FP.Core.dmul_mag ha hb hKa hKb
  have h2 : (FP.dmul a b).toNat % 2 ^ 63 < (Ka + Kb - 1025 + 3) * 2 ^ 52 := h1
  exact n64_of (by omega)
theorem inf_mag {x : UInt64} {s : Bool} (h : Jvm.FP.Core.val64 x = .inf s) : 9218868437227405312 ≤ x.toNat % 2 ^ 63 := by
  refine Nat.le_of_not_lt fun w => ?_
  obtain ⟨s2, c, q, e⟩ := (Jvm.FP.Core.fin_bits x).mpr w
  rw [h] at e
  cases e
theorem inv_ge {a : UInt64} {K : Nat} (ha : dLt a K) (hK : K ≤ 2045) : (2046 - K) * 2 ^ 52 ≤ (FP.ddiv FP.dconst1 a).toNat % 2 ^ 63 := by
  have hm : Jvm.FP.Core.mag Jvm.FP.Core.b64 a.toNat < K * Jvm.FP.Core.b64.tails := by rw [Jvm.FP.Core.mag_toNat64, Jvm.FP.Core.tails_b64]; exact ha.mod (by omega)
  obtain ⟨t, d, r, y1, y2, y3⟩ := Jvm.FP.Core.fin_of_mag Jvm.FP.Core.good_b64 (Jvm.FP.Core.mag_lt_inf hm (by rw [Jvm.FP.Core.exps_b64]; omega))
  obtain ⟨k1, l1⟩ := Jvm.FP.Core.units_lt_start hm
  have hv : Jvm.FP.Core.val64 (FP.ddiv FP.dconst1 a) = Jvm.FP.Core.quotient Jvm.FP.Core.b64 (.fin false (2 ^ 52) (-52)) (.fin t d r) := by
    show Jvm.FP.Core.val64 (Jvm.FP.Core.ddiv FP.dconst1 a) = _
    rw [Jvm.FP.Core.val64_ddiv, val_one]
    congr 1
  by_cases hd : d = 0
  · have e : Jvm.FP.Core.val64 (FP.ddiv FP.dconst1 a) = .inf (false != t) := by
      rw [hv]
      unfold Jvm.FP.Core.quotient
      simp only [hd, if_true]
      rfl
    have := inf_mag e
    omega
  · have e : Jvm.FP.Core.decode Jvm.FP.Core.b64 (FP.ddiv FP.dconst1 a).toNat = Jvm.FP.Core.roundRatio Jvm.FP.Core.b64 (false != t) (2 ^ 52) d (-52 - r) := by
      show Jvm.FP.Core.val64 (FP.ddiv FP.dconst1 a) = _
      rw [hv]
      unfold Jvm.FP.Core.quotient
      simp only [hd, if_false]
    have qm := Jvm.FP.Core.qmin_b64
    have r1 : Jvm.FP.Core.b64.qmin ≤ r := y2.2.1
    have h := Jvm.FP.Core.mag_ge Jvm.FP.Core.good_b64 (m := (2046 - K) * Jvm.FP.Core.b64.tails) (e0 := 2 * Jvm.FP.Core.b64.qmin - r) e (by omega) (by omega) (by omega) (by rw [Jvm.FP.Core.infBits_b64, Jvm.FP.Core.tails_b64]; omega) ?_
    · rw [Jvm.FP.Core.mag_toNat64, Jvm.FP.Core.tails_b64] at h
      exact h
    · rw [Jvm.FP.Core.unitsOf_start (by omega)]
      have e1 : (Jvm.FP.Core.b64.qmin - (2 * Jvm.FP.Core.b64.qmin - r)).toNat = (r - Jvm.FP.Core.b64.qmin).toNat := by congr 1; omega
      have e2 : 2 ^ (r - Jvm.FP.Core.b64.qmin).toNat * d = Jvm.FP.Core.zmag Jvm.FP.Core.b64 (.fin t d r) := by
        show _ = d * _
        rw [Nat.mul_comm]
      have e3 : Jvm.FP.Core.inUnits (2 ^ 52) (-52 - r) (2 * Jvm.FP.Core.b64.qmin - r) = Jvm.FP.Core.b64.tails * 2 ^ 2096 := by
        unfold Jvm.FP.Core.inUnits
        rw [qm, Jvm.FP.Core.tails_b64]
        congr 2
        omega
      rw [e1, Nat.mul_assoc, e2, y3, e3]
      calc Jvm.FP.Core.b64.tails * 2 ^ (2046 - K - 1) * Jvm.FP.Core.unitsOf Jvm.FP.Core.b64 (Jvm.FP.Core.mag Jvm.FP.Core.b64 a.toNat) ≤ Jvm.FP.Core.b64.tails * 2 ^ (2046 - K - 1) * (Jvm.FP.Core.b64.tails * 2 ^ (K - 1)) := Nat.mul_le_mul_left _ (Nat.le_of_lt l1)
        _ = Jvm.FP.Core.b64.tails * (2 ^ (2046 - K - 1) * 2 ^ 52 * 2 ^ (K - 1)) := by rw [Jvm.FP.Core.tails_b64]; ac_rfl
        _ = Jvm.FP.Core.b64.tails * 2 ^ 2096 := by
          rw [← Nat.pow_add, ← Nat.pow_add]
          congr 2
          omega
theorem add_ge {x y : UInt64} (hx : SzG x) (hy : SzG y) {L : Nat} (hL : 1 ≤ L) (hL2 : L ≤ 2047) (h : L * 2 ^ 52 ≤ x.toNat) : L * 2 ^ 52 ≤ (FP.dadd x y).toNat % 2 ^ 63 := by
  have hx2 := SzG_iff.mp hx
  have hy2 := SzG_iff.mp hy
  have hv : Jvm.FP.Core.val64 (FP.dadd x y) = Jvm.FP.Core.round Jvm.FP.Core.b64 (Jvm.FP.Core.exactSum (Jvm.FP.Core.val64 x) (Jvm.FP.Core.val64 y)) := Jvm.FP.Core.val64_dadd x y
  have zx := Jvm.FP.Core.zmag_bits hx2.1
  rw [hx.lt63] at zx
  have fx := Jvm.FP.Core.val64_fits x
  have fy := Jvm.FP.Core.val64_fits y
  cases ex : Jvm.FP.Core.val64 x with
  | nan => exact absurd ex hx2.1
  | inf s =>
    cases ey : Jvm.FP.Core.val64 y with
    | nan => exact absurd ey hy2.1
    | inf t =>
      rw [ex] at hx2
      rw [ey] at hy2
      have hs : s = false := hx2.2
      have ht : t = false := hy2.2
      subst hs
      subst ht
      rw [ex, ey] at hv
      have := inf_mag (s := false) hv
      omega
    | fin t d r =>
      rw [ex, ey] at hv
      have := inf_mag (s := s) hv
      omega
  | fin s c q =>
    cases ey : Jvm.FP.Core.val64 y with
    | nan => exact absurd ey hy2.1
    | inf t =>
      rw [ex, ey] at hv
      have := inf_mag (s := t) hv
      omega
    | fin t d r =>
      rw [ex] at hx2 fx zx
      rw [ey] at hy2 fy
      have hs : s = false := hx2.2
      have ht : t = false := hy2.2
      subst hs
      subst ht
      obtain ⟨sg, v, e, p1, p2, p3⟩ := Jvm.FP.Core.sum_units fx fy
      rw [ex, ey, p1] at hv
      have hm := Jvm.FP.Core.mag_ge (s := sg) (A := v) (B := 1) (e := e) Jvm.FP.Core.good_b64 (n := (FP.dadd x y).toNat) (m := L * Jvm.FP.Core.b64.tails) (e0 := Jvm.FP.Core.b64.qmin) hv (by decide) (by omega) p2 (by rw [Jvm.FP.Core.infBits_b64, Jvm.FP.Core.tails_b64]; omega) ?_
      · rw [Jvm.FP.Core.mag_toNat64, Jvm.FP.Core.tails_b64] at hm
        exact hm
      · rw [Int.sub_self, Int.toNat_zero, Nat.pow_zero, Nat.mul_one, Nat.mul_one]
        have h1 : Jvm.FP.Core.zmag Jvm.FP.Core.b64 (.fin false c q) ≤ Jvm.FP.Core.inUnits v e Jvm.FP.Core.b64.qmin := by
          have zv : ∀ c q, Jvm.FP.Core.zval Jvm.FP.Core.b64 (.fin false c q) = (Jvm.FP.Core.zmag Jvm.FP.Core.b64 (.fin false c q) : Int) := fun _ _ => rfl
          rw [zv, zv] at p3
          unfold Jvm.FP.Core.signed at p3
          split at p3 <;> omega
        refine Nat.le_trans ?_ h1
        rw [zx]
        exact Jvm.FP.Core.unitsOf_le_iff.mpr (by rw [Jvm.FP.Core.tails_b64]; exact h)
theorem ser_lt {a b : UInt64} {K : Nat} (ha : dLt a K) (hb : dLt b K) (hK1 : 1 ≤ K) (hK : K ≤ 2000) : dLt (serF a b) (K + 2) := by
  have sa := ha.good (by omega)
  have sb := hb.good (by omega)
  have i1 := SzG_inv sa
  have i2 := SzG_inv sb
  have s3 := SzG_add i1 i2
  have g1 := inv_ge ha (by omega)
  rw [i1.lt63] at g1
  have g2 := add_ge i1 i2 (by omega) (by omega) g1
  have sr := SzG_ser sa sb
  unfold dLt
  rw [← sr.lt63]
  unfold serF at sr ⊢
  rcases Nat.lt_or_ge ((FP.dadd (FP.ddiv FP.dconst1 a) (FP.ddiv FP.dconst1 b)).toNat % 2 ^ 63) (2047 * 2 ^ 52) with w | w
  · have h := Jvm.FP.Core.ddiv_mag (a := FP.dconst1) (b := FP.dadd (FP.ddiv FP.dconst1 a) (FP.ddiv FP.dconst1 b)) (K := 1024) (L := 2046 - K) (by decide +kernel) g2 w (by decide) (by omega)
    have h2 : (FP.ddiv FP.dconst1 (FP.dadd (FP.ddiv FP.dconst1 a) (FP.ddiv FP.dconst1 b))).toNat % 2 ^ 63 < (1024 + (1074 - 52 - 1) - (2046 - K) + 3) * 2 ^ 52 := h
    have e : 1024 + (1074 - 52 - 1) - (2046 - K) + 3 = K + 2 := by omega
    rw [e] at h2
    exact h2
  · -- the sum is infinite
    have n1 := SzG_iff.mp s3
    have e : ∃ s, Jvm.FP.Core.val64 (FP.dadd (FP.ddiv FP.dconst1 a) (FP.ddiv FP.dconst1 b)) = .inf s := by
      cases ev : Jvm.FP.Core.val64 (FP.dadd (FP.ddiv FP.dconst1 a) (FP.ddiv FP.dconst1 b)) with
      | nan => exact absurd ev n1.1
      | inf s => exact ⟨s, rfl⟩
      | fin s c q =>
        have := (Jvm.FP.Core.fin_bits _).mp ⟨s, c, q, ev⟩
        omega
    obtain ⟨s, e⟩ := e
    have z : Jvm.FP.Core.DZero (FP.ddiv FP.dconst1 (FP.dadd (FP.ddiv FP.dconst1 a) (FP.ddiv FP.dconst1 b))) := by
      refine ⟨false != s, Jvm.FP.Core.b64.qmin, ?_⟩
      show Jvm.FP.Core.val64 (Jvm.FP.Core.ddiv FP.dconst1 _) = _
      rw [Jvm.FP.Core.val64_ddiv, val_one, e]
      rfl
    have := (Jvm.FP.Core.zero_bits2 _).mp z
    omega
