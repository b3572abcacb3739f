-- doubles: sizes are no NaN and have no sign
def SzG (x : UInt64) : Prop := x.toNat ≤ 9218868437227405312
theorem SzG_iff {x : UInt64} : SzG x ↔ Jvm.FP.Core.val64 x ≠ .nan ∧ Jvm.FP.Core.sgn (Jvm.FP.Core.val64 x) = false := by
  unfold SzG
  have hlt : x.toNat < 2 ^ 64 := x.toNat_lt
  constructor
  · intro h
    have h1 : Jvm.FP.Core.val64 x ≠ .nan := (Jvm.FP.Core.ne_nan x).mpr (by omega)
    refine ⟨h1, ?_⟩
    rw [Jvm.FP.Core.sgn_bits h1, decide_eq_false_iff_not]
    omega
  · rintro ⟨h1, h2⟩
    rw [Jvm.FP.Core.sgn_bits h1, decide_eq_false_iff_not] at h2
    have h3 := (Jvm.FP.Core.ne_nan x).mp h1
    omega
theorem SzG_n64 {x : UInt64} (h : SzG x) : vf_n64 x := by
  unfold vf_n64
  unfold SzG at h
  rw [UInt64.le_iff_toNat_le, UInt64.toNat_and]
  exact Nat.le_trans (Nat.and_le_left) h
theorem SzG_round {c : Nat} {q : Int} : Jvm.FP.Core.round Jvm.FP.Core.b64 (.fin false c q) ≠ .nan ∧ Jvm.FP.Core.sgn (Jvm.FP.Core.round Jvm.FP.Core.b64 (.fin false c q)) = false :=
  ⟨Jvm.FP.Core.roundRatio_ne_nan _ _ _ _ _, Jvm.FP.Core.sgn_roundRatio _ _ _ _ _⟩
theorem SzG_add {a b : UInt64} (ha : SzG a) (hb : SzG b) : SzG (FP.dadd a b) := by
  rw [SzG_iff] at ha hb ⊢
  show Jvm.FP.Core.val64 (Jvm.FP.Core.dadd a b) ≠ _ ∧ Jvm.FP.Core.sgn (Jvm.FP.Core.val64 (Jvm.FP.Core.dadd a b)) = _
  rw [Jvm.FP.Core.val64_dadd]
  obtain ⟨a1, a2⟩ := ha
  obtain ⟨b1, b2⟩ := hb
  cases hx : Jvm.FP.Core.val64 a with
  | nan => exact absurd hx a1
  | inf s =>
    rw [hx] at a2
    have hs : s = false := a2
    subst hs
    cases hy : Jvm.FP.Core.val64 b with
    | nan => exact absurd hy b1
    | inf t =>
      rw [hy] at b2
      have ht : t = false := b2
      subst ht
      exact ⟨(by intro z; cases z), rfl⟩
    | fin t d r => exact ⟨(by intro z; cases z), rfl⟩
  | fin s c q =>
    rw [hx] at a2
    have hs : s = false := a2
    subst hs
    cases hy : Jvm.FP.Core.val64 b with
    | nan => exact absurd hy b1
    | inf t =>
      rw [hy] at b2
      have ht : t = false := b2
      subst ht
      exact ⟨(by intro z; cases z), rfl⟩
    | fin t d r =>
      rw [hy] at b2
      have ht : t = false := b2
      subst ht
      have hv : Jvm.FP.Core.sumSign false false (Jvm.FP.Core.sumUnits false c q false d r (min q r)) = false := by
        unfold Jvm.FP.Core.sumSign Jvm.FP.Core.sumUnits Jvm.FP.Core.signed
        simp only [Bool.false_eq_true, if_false]
        split
        · rfl
        · rw [decide_eq_false_iff_not]
          omega
      show Jvm.FP.Core.round _ (.fin (Jvm.FP.Core.sumSign false false (Jvm.FP.Core.sumUnits false c q false d r (min q r))) _ _) ≠ _ ∧ Jvm.FP.Core.sgn (Jvm.FP.Core.round _ (.fin (Jvm.FP.Core.sumSign false false (Jvm.FP.Core.sumUnits false c q false d r (min q r))) _ _)) = _
      rw [hv]
      exact SzG_round
theorem val_one : Jvm.FP.Core.val64 FP.dconst1 = .fin false (2 ^ 52) (-52) := by decide +kernel
theorem SzG_inv {a : UInt64} (ha : SzG a) : SzG (FP.ddiv FP.dconst1 a) := by
  rw [SzG_iff] at ha ⊢
  show Jvm.FP.Core.val64 (Jvm.FP.Core.ddiv FP.dconst1 a) ≠ _ ∧ Jvm.FP.Core.sgn (Jvm.FP.Core.val64 (Jvm.FP.Core.ddiv FP.dconst1 a)) = _
  rw [Jvm.FP.Core.val64_ddiv, val_one]
  obtain ⟨a1, a2⟩ := ha
  cases hx : Jvm.FP.Core.val64 a with
  | nan => exact absurd hx a1
  | inf s =>
    rw [hx] at a2
    have hs : s = false := a2
    subst hs
    exact ⟨(by intro z; cases z), rfl⟩
  | fin s c q =>
    rw [hx] at a2
    have hs : s = false := a2
    subst hs
    unfold Jvm.FP.Core.quotient
    by_cases hc : c = 0
    · simp only [hc]
      exact ⟨(by intro z; cases z), rfl⟩
    · simp only [hc, if_false]
      exact ⟨Jvm.FP.Core.roundRatio_ne_nan _ _ _ _ _, Jvm.FP.Core.sgn_roundRatio _ _ _ _ _⟩
/-- the size of two in series -/
def serF (a b : UInt64) : UInt64 := FP.ddiv FP.dconst1 (FP.dadd (FP.ddiv FP.dconst1 a) (FP.ddiv FP.dconst1 b))
theorem SzG_ser {a b : UInt64} (ha : SzG a) (hb : SzG b) : SzG (serF a b) := SzG_inv (SzG_add (SzG_inv ha) (SzG_inv hb))
theorem dcl_iff {a b : UInt64} (ha : SzG a) (hb : SzG b) : (dcl a b < 0 ↔ a.toNat < b.toNat) ∧ (dcl a b = 0 ↔ a.toNat = b.toNat) ∧ (dcg a b < 0 ↔ a.toNat < b.toNat) ∧ (dcg a b = 0 ↔ a.toNat = b.toNat) := by
  have hlt : a.toNat < 2 ^ 64 := a.toNat_lt
  have hlt2 : b.toNat < 2 ^ 64 := b.toNat_lt
  have ha1 := (SzG_iff.mp ha).1
  have hb1 := (SzG_iff.mp hb).1
  unfold SzG at ha hb
  have key : FP.dcmp a b = some (compare (a.toNat : Int) (b.toNat : Int)) := by
    have h := Jvm.FP.Core.cmp_key (f := Jvm.FP.Core.b64) Jvm.FP.Core.good_b64 (m := a.toNat) (n := b.toNat) (Jvm.FP.Core.lt_full64 a) (Jvm.FP.Core.lt_full64 b) ha1 hb1
    have k1 : ∀ x : Nat, x ≤ 9218868437227405312 → Jvm.FP.Core.key Jvm.FP.Core.b64 x = x := by
      intro x hx
      unfold Jvm.FP.Core.key Jvm.FP.Core.signed Jvm.FP.Core.mag
      rw [Jvm.FP.Core.half_b64, decide_eq_false (by omega), Nat.mod_eq_of_lt (by omega)]
      rfl
    rw [k1 _ ha, k1 _ hb] at h
    exact h
  unfold dcl dcg
  rw [key]
  rcases Int.lt_trichotomy (a.toNat : Int) (b.toNat : Int) with h | h | h
  · rw [show compare (a.toNat : Int) (b.toNat : Int) = .lt from by rw [Int.compare_eq_lt]; exact h]
    refine ⟨?_, ?_, ?_, ?_⟩ <;> constructor <;> intro z <;> first | omega | (exact absurd z (by decide)) | decide
  · rw [show compare (a.toNat : Int) (b.toNat : Int) = .eq from by rw [Int.compare_eq_eq]; exact h]
    refine ⟨?_, ?_, ?_, ?_⟩ <;> constructor <;> intro z <;> first | omega | (exact absurd z (by decide)) | decide
  · rw [show compare (a.toNat : Int) (b.toNat : Int) = .gt from by rw [Int.compare_eq_gt]; exact h]
    refine ⟨?_, ?_, ?_, ?_⟩ <;> constructor <;> intro z <;> first | omega | (exact absurd z (by decide)) | decide
theorem SzG_0 : SzG FP.dconst0 := by unfold SzG; decide +kernel
