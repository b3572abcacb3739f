-- the heap behind the constructors
def S0 : ga_S := (fun c => if c = 3 then fillF (fun _ => 0) (40 : Nat) (-1) else if c = 10 then fillF (fun _ => 0) (40 : Nat) (-1) else if c = 8 then fillF (fun _ => 0) (120 : Nat) (-1) else if c = 15 then fillF (fun _ => 0) (120 : Nat) (-1) else if c = 17 then grF 32 else if c = 71 then grF 32 else if c = 56 then fillF (fun _ => 0) (30 : Nat) (-1) else if c = 57 then fillF (fun _ => 0) (30 : Nat) (-1) else if c = 58 then fillF (fun _ => 0) (40 : Nat) (-1) else if c = 59 then fillF (fun _ => 0) (40 : Nat) (-1) else fun _ => 0, fun _ _ => FP.dconst0)
set_option maxRecDepth 100000 in
theorem heap0 : (cI_X10_init 0 ++ cI_X11_init 63) ++ [.inr (.inr (.inr (1, fun _ => 0)))] = HP S0 := rfl
theorem fill_at {n : Nat} {j : Int} (h1 : 0 ≤ j) (h2 : j < n) : fillF (fun _ => 0) n (-1) j = -1 := if_pos ⟨h1, h2⟩
theorem d0_lt {K : Nat} (hK : 0 < K) : dLt FP.dconst0 K := by
  unfold dLt
  have : (FP.dconst0 : UInt64).toNat = 0 := by decide
  rw [this]
  omega
theorem Inv_0 : Inv S0 0 0 0 0 := by
  have f2 : finS 0 S0 0 := ⟨0, rfl, fun d _ _ => d0_lt (by omega)⟩
  have f9 : finS 1 S0 0 := ⟨0, rfl, fun d _ _ => d0_lt (by omega)⟩
  refine ⟨⟨⟨⟨⟨rfl, by decide, rfl, by decide, fun d a b => by omega, fun d a b => by omega, fun d a b => by omega⟩, rfl, rfl, fun d a b => by omega, fun d a b => by omega, fun d a b => by omega⟩, fun n a b => fill_at (by omega) b, fun _ _ _ => rfl, fun j a b => fill_at (by omega) b, f2⟩, ⟨⟨⟨rfl, by decide, rfl, by decide, fun d a b => by omega, fun d a b => by omega, fun d a b => by omega⟩, rfl, rfl, fun d a b => by omega, fun d a b => by omega, fun d a b => by omega⟩, fun n a b => fill_at (by omega) b, fun _ _ _ => rfl, fun j a b => fill_at (by omega) b, f9⟩⟩, ⟨fun j a b => ⟨rfl, ?_⟩, fun _ _ _ => rfl, fun _ _ _ => ?_⟩, ⟨fun _ _ _ => ?_, fun _ _ _ => ?_, fun _ _ _ => ?_, ?_⟩, ⟨⟨rfl, rfl⟩, rfl, Int.le_refl _, ?_, fun j a b => ?_⟩, Iff.rfl, fun _ => ⟨fun i a b => ⟨fill_at a b, fill_at a b⟩, fun i a b => ⟨fill_at a b, fill_at a b⟩⟩, fun w => absurd rfl w⟩
  · show 0 ≤ grF 32 j ∧ grF 32 j < 4
    unfold grF
    split <;> omega
  · show (FP.dconst0 : UInt64).toNat ≤ _
    decide
  · show (0 : Int) ≤ 0 ∧ (0 : Int) < 8
    decide
  · show (-1 : Int) ≤ 0 ∧ (0 : Int) < 40
    decide
  · show (-1 : Int) ≤ 0
    decide
  · refine ⟨fun x y x1 x2 y1 y2 a _ _ => ?_, fun x y x1 x2 y1 y2 a _ _ => ?_⟩
    · have k : x % 40 < 0 := a.1
      omega
    · have k : (40 + x) % 40 < 0 := a.1
      omega
  · show (0 : Int) ≤ 89
    decide
  · rfl
theorem IvO_0 : IvO S0 := ⟨0, 0, 0, 0, Inv_0⟩
