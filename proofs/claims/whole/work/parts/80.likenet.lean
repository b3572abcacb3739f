-- likeness of nets
theorem evN_side {β : ga_S} (hp : pinB β) {y z : Int} : evN β y z ↔ 0 ≤ z ∧ z < 240 ∧ bL β (z / 4) ∧ z / 120 = y / 40 ∧ β.1 69 z = y % 40 := by
  unfold evN
  constructor
  · rintro ⟨z1, z2, z3, z4, z5⟩
    have := hp z z1 z2 z3
    exact ⟨z1, z2, z3, by omega, by omega⟩
  · rintro ⟨z1, z2, z3, z4, z5⟩
    exact ⟨z1, z2, z3, by omega, by omega⟩
/-- sums over a net's events, over the devices of its side -/
theorem evN_sum {β : ga_S} (hp : pinB β) {y : Int} {D : Nat} (y1 : 0 ≤ y) (y2 : y < 80) (hD : β.1 70 (y / 40) = D) (hD2 : D ≤ 30) (G : Int → Prop) : sz (fun z => tv (evN β y z ∧ G z)) 240 = sz (fun j => tv ((β.1 68 (30 * (y / 40) + j / 4) = 0 ∧ β.1 69 (120 * (y / 40) + j) = y % 40) ∧ G (120 * (y / 40) + j))) (4 * D) := by
  obtain ⟨s, hs⟩ : ∃ s : Nat, y / 40 = s := ⟨(y / 40).toNat, by omega⟩
  rw [hs] at hD
  rw [hs, sz_wi (a := 120 * s) (w := 4 * D) (by omega) (fun i hi => tvz (fun w => by have := ((evN_side hp).mp w.1).2.2.2.1; omega)) (fun i h1 h2 => tvz (fun w => by
    have w2 := ((evN_side hp).mp w.1)
    have w3 := w2.2.2.1.1
    rw [show (i : Int) / 4 / 30 = s by omega, hD] at w3
    omega))]
  apply sz_congr
  intro j hj
  rw [show ((120 * s : Nat) : Int) + j = 120 * (s : Int) + j by omega]
  apply tv_congr
  rw [evN_side hp]
  constructor
  · rintro ⟨⟨_, _, q3, _, q5⟩, g⟩
    refine ⟨⟨?_, q5⟩, g⟩
    have := q3.2
    rw [show (120 * (s : Int) + j) / 4 = 30 * s + j / 4 by omega] at this
    exact this
  · rintro ⟨⟨q3, q5⟩, g⟩
    refine ⟨⟨by omega, by omega, ⟨?_, ?_⟩, by omega, q5⟩, g⟩
    · rw [show (120 * (s : Int) + j) / 4 / 30 = s by omega, hD]; omega
    · rw [show (120 * (s : Int) + j) / 4 = 30 * s + j / 4 by omega]; exact q3
theorem evN_all {β : ga_S} (hp : pinB β) {y : Int} {D : Nat} (y1 : 0 ≤ y) (y2 : y < 80) (hD : β.1 70 (y / 40) = D) (hD2 : D ≤ 30) : sz (fun z => tv (evN β y z)) 240 = allB β (y / 40) (y % 40) := by
  have e := evN_sum hp y1 y2 hD hD2 (fun _ => True)
  simp only [and_true] at e
  rw [e]
  unfold allB
  rw [hD, Int.toNat_natCast]
/-- how many pins of a group, of devices of a class of its side, are on a net -/
noncomputable def pkO (β : ga_S) (CD : Int → Int) (y cd g : Int) (D : Nat) : Int := sz (fun d => tif (β.1 68 (30 * (y / 40) + d) = 0 ∧ CD (30 * (y / 40) + d) = cd) (pO β (30 * (y / 40) + d) g (y % 40)) 0) D
theorem evN_cnt {β : ga_S} {CD : Int → Int} (hp : pinB β) (hg : grpB β) {y cd g : Int} {D : Nat} (y1 : 0 ≤ y) (y2 : y < 80) (hD : β.1 70 (y / 40) = D) (hD2 : D ≤ 30) (g1 : 0 ≤ g) (g2 : g < 4) : sz (fun z => tv (evN β y z ∧ ncode β CD z = cd * 4 + g)) 240 = pkO β CD y cd g D := by
  rw [evN_sum hp y1 y2 hD hD2, sz_4]
  unfold pkO
  apply sz_congr
  intro d hd
  have e1 : ∀ k : Nat, k < 4 → (4 * (d : Int) + k) / 4 = d := fun k hk => by omega
  rcases Classical.em (β.1 68 (30 * (y / 40) + d) = 0) with q | q
  · have l : bL β (30 * (y / 40) + d) := ⟨by rw [show (30 * (y / 40) + (d : Int)) / 30 = y / 40 by omega, hD]; omega, q⟩
    have key : ∀ k : Nat, k < 4 → (ncode β CD (120 * (y / 40) + (4 * (d : Int) + k)) = cd * 4 + g ↔ CD (30 * (y / 40) + d) = cd ∧ gB β (120 * (y / 40) + (4 * (d : Int) + k)) = g) := by
      intro k hk
      have e2 : (120 * (y / 40) + (4 * (d : Int) + k)) / 4 = 30 * (y / 40) + d := by omega
      unfold ncode
      rw [e2]
      exact enc4 (hg _ (by omega) (by omega) (by rw [e2]; exact l)) ⟨g1, g2⟩
    rcases Classical.em (CD (30 * (y / 40) + d) = cd) with c | c
    · rw [tif1 ⟨q, c⟩]
      unfold pO
      apply sz_congr
      intro k hk
      apply tv_congr
      rw [e1 k hk, key k hk, show 4 * (30 * (y / 40) + (d : Int)) + k = 120 * (y / 40) + (4 * d + k) by omega]
      exact ⟨fun w => ⟨w.2.2, w.1.2⟩, fun w => ⟨⟨q, w.2⟩, c, w.1⟩⟩
    · rw [tif0 (fun w => c w.2)]
      exact sz_z (fun k hk => tvz (fun w => c ((key k hk).mp w.2).1))
  · rw [tif0 (fun w => q w.1)]
    exact sz_z (fun k hk => tvz (fun w => q (by have := w.1.1; rw [e1 k hk] at this; exact this)))
theorem lkN_iff {β : ga_S} {RD : Int → Int} (hg : grpB β) (hd : okD β RD) {y v : Int} : lkN β RD y v ↔ sz (fun z => tv (evN β y z)) 240 = sz (fun z => tv (evN β v z)) 240 ∧ ∀ i : Nat, i < 240 → evN β y i → sz (fun z => tv (evN β y z ∧ ncode β RD z = ncode β RD i)) 240 = sz (fun z => tv (evN β v z ∧ ncode β RD z = ncode β RD i)) 240 := by
  constructor
  · rintro ⟨h1, h2⟩
    exact ⟨h1, fun i _ _ => h2 _⟩
  · rintro ⟨h1, h2⟩
    refine ⟨h1, ?_⟩
    have bd : ∀ y : Int, ∀ i : Nat, i < 240 → evN β y i → 0 ≤ ncode β RD i ∧ ncode β RD i < (240 : Nat) := by
      intro y i hi w
      have l := w.2.2.1
      have := hd ((i : Int) / 4) (by omega) (by omega) l
      have g := hg i (by omega) (by omega) l
      unfold ncode
      omega
    exact tot_eq (B := 240) (bd y) (bd v) h1 h2
