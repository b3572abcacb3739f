-- joinings: class and reference join the same pairs
theorem pc4_cg {pins grp kind pins2 grp2 kind2 : Int → Int} {d g n : Int} (h1 : ∀ k : Int, 0 ≤ k → k < 4 → pins (d * 4 + k) = pins2 (d * 4 + k)) (h2 : kind d = kind2 d) (h3 : ∀ k : Int, 0 ≤ k → k < 4 → grp (kind d * 4 + k) = grp2 (kind2 d * 4 + k)) : pc4 pins grp kind d g n = pc4 pins2 grp2 kind2 d g n := by
  unfold pc4
  exact sz_congr (fun k hk => by rw [h1 k (by omega) (by omega), h3 k (by omega) (by omega)])
theorem parP_cg {pins grp kind pins2 grp2 kind2 : Int → Int} {a b : Int} (h1 : ∀ d : Int, d = a ∨ d = b → ∀ k : Int, 0 ≤ k → k < 4 → pins (d * 4 + k) = pins2 (d * 4 + k)) (h2 : ∀ d : Int, d = a ∨ d = b → kind d = kind2 d) (h3 : ∀ d : Int, d = a ∨ d = b → ∀ k : Int, 0 ≤ k → k < 4 → grp (kind d * 4 + k) = grp2 (kind2 d * 4 + k)) : parP pins grp kind a b ↔ parP pins2 grp2 kind2 a b := by
  unfold parP
  refine forall_congr' (fun k => forall_congr' (fun hk => ?_))
  rw [h3 a (Or.inl rfl) k (by omega) (by omega), h1 a (Or.inl rfl) k (by omega) (by omega), pc4_cg (h1 a (Or.inl rfl)) (h2 a (Or.inl rfl)) (h3 a (Or.inl rfl)), pc4_cg (h1 b (Or.inr rfl)) (h2 b (Or.inr rfl)) (h3 b (Or.inr rfl))]
theorem twoP_cg {pins grp kind pins2 grp2 kind2 : Int → Int} {d : Int} (h1 : ∀ k : Int, 0 ≤ k → k < 4 → pins (d * 4 + k) = pins2 (d * 4 + k)) (h3 : ∀ k : Int, 0 ≤ k → k < 4 → grp (kind d * 4 + k) = grp2 (kind2 d * 4 + k)) : twoP pins grp kind d ↔ twoP pins2 grp2 kind2 d := by
  unfold twoP
  rw [h1 0 (by decide) (by decide), h1 1 (by decide) (by decide), h1 2 (by decide) (by decide), h1 3 (by decide) (by decide), h3 0 (by decide) (by decide), h3 1 (by decide) (by decide)]
theorem betF_is {pa port pins : Int → Int} {a b : Int} : ∀ n : Nat, (∀ j : Nat, j < n → pins (a * 4 + j) ≠ -1) → (betF pa port pins a b n = -1 ∧ ∀ j : Nat, j < n → ¬ betC pa port pins a b j) ∨ ((∃ j : Nat, j < n ∧ betC pa port pins a b j ∧ betF pa port pins a b n = pins (a * 4 + j)) ∧ ∀ j : Nat, j < n → betC pa port pins a b j → betF pa port pins a b n ≤ pins (a * 4 + j))
  | 0, _ => Or.inl ⟨rfl, fun j hj => by omega⟩
  | n + 1, hp => by
    have ih := betF_is (pa := pa) (port := port) (pins := pins) (a := a) (b := b) n (fun j hj => hp j (by omega))
    have ih2 := ih
    rw [betF_s]
    by_cases q : betC pa port pins a b n ∧ (betF pa port pins a b n = -1 ∨ pins (a * 4 + n) < betF pa port pins a b n)
    · rw [if_pos q]
      refine Or.inr ⟨⟨n, by omega, q.1, rfl⟩, fun j hj c => ?_⟩
      by_cases w : j = n
      · rw [w]; exact Int.le_refl _
      · rcases ih with ⟨h1, h2⟩ | ⟨_, h2⟩
        · exact absurd c (h2 j (by omega))
        · have := h2 j (by omega) c
          rcases q.2 with z | z
          · rcases ih2 with ⟨_, h3⟩ | ⟨⟨i, i1, _, i3⟩, _⟩
            · exact absurd c (h3 j (by omega))
            · have := hp i (by omega)
              omega
          · omega
    · rw [if_neg q]
      rcases ih with ⟨h1, h2⟩ | ⟨⟨i, i1, i2, i3⟩, h2⟩
      · refine Or.inl ⟨h1, fun j hj c => ?_⟩
        by_cases w : j = n
        · rw [w] at c; exact q ⟨c, Or.inl h1⟩
        · exact h2 j (by omega) c
      · refine Or.inr ⟨⟨i, by omega, i2, i3⟩, fun j hj c => ?_⟩
        by_cases w : j = n
        · rw [w] at c ⊢
          rcases Int.lt_or_le (pins (a * 4 + n)) (betF pa port pins a b n) with z | z
          · exact absurd ⟨c, Or.inr z⟩ q
          · exact z
        · exact h2 j (by omega) c
theorem sz_3 {P : Int → Prop} {n i j k : Nat} (hi : i < n) (hj : j < n) (hk : k < n) (h1 : i ≠ j) (h2 : i ≠ k) (h3 : j ≠ k) (pi : P i) (pj : P j) (pk : P k) : 3 ≤ sz (fun z => tv (P z)) n := by
  have a := sz_lt (P := fun z => P z ∧ z ≠ i) (Q := P) (n := n) (k := i) (fun _ _ w => w.1) hi (fun w => w.2 rfl) pi
  have b := sz_lt (P := fun z => (P z ∧ z ≠ i) ∧ z ≠ j) (Q := fun z => P z ∧ z ≠ i) (n := n) (k := j) (fun _ _ w => w.1) hj (fun w => w.2 rfl) ⟨pj, by omega⟩
  have c := sz_ge1 (P := fun z => (P z ∧ z ≠ i) ∧ z ≠ j) (n := n) (i := k) hk ⟨⟨pk, by omega⟩, by omega⟩
  omega
theorem FstP_ex {C : Nat → Nat → Prop} {D : Nat} (h : ∃ a b : Nat, a < b ∧ b < D ∧ C a b) : ∃ a b : Nat, FstP C D a b := by
  have key : ∀ m : Nat, (∃ a b : Nat, a < b ∧ b < D ∧ C a b ∧ a * 100 + b ≤ m) → D ≤ 100 → ∃ a b : Nat, FstP C D a b := by
    intro m
    induction m with
    | zero => rintro ⟨a, b, h1, h2, h3, h4⟩ _; omega
    | succ m ih =>
      rintro ⟨a, b, h1, h2, h3, h4⟩ hD
      rcases Classical.em (∃ a' b' : Nat, a' < b' ∧ b' < D ∧ (a' < a ∨ a' = a ∧ b' < b) ∧ C a' b') with ⟨a', b', g1, g2, g3, g4⟩ | w
      · exact ih ⟨a', b', g1, g2, g4, by omega⟩ hD
      · exact ⟨a, b, h1, h2, h3, fun a' b' g1 g2 g3 g4 => w ⟨a', b', g1, g2, g3, g4⟩⟩
  have key2 : ∀ m a : Nat, a ≤ m → (∃ b : Nat, a < b ∧ b < D ∧ C a b) → ∃ a b : Nat, FstP C D a b := by
    intro m
    induction m with
    | zero =>
      intro a ha hb
      have ha0 : a = 0 := by omega
      subst ha0
      have kb : ∀ q b : Nat, b ≤ q → 0 < b → b < D → C 0 b → ∃ a b : Nat, FstP C D a b := by
        intro q
        induction q with
        | zero => intro b b1 b2; omega
        | succ q iq =>
          intro b b1 b2 b3 b4
          rcases Classical.em (∃ b' : Nat, 0 < b' ∧ b' < b ∧ C 0 b') with ⟨b', g1, g2, g3⟩ | w
          · exact iq b' (by omega) g1 (by omega) g3
          · exact ⟨0, b, b2, b3, b4, fun a' b' g1 g2 g3 g4 => by
              rcases g3 with g3 | ⟨g3, g5⟩
              · omega
              · subst g3; exact w ⟨b', g1, g5, g4⟩⟩
      obtain ⟨b, b1, b2, b3⟩ := hb
      exact kb b b (Nat.le_refl _) b1 b2 b3
    | succ m ih =>
      intro a ha hb
      rcases Classical.em (∃ a' b' : Nat, a' < a ∧ a' < b' ∧ b' < D ∧ C a' b') with ⟨a', b', g0, g1, g2, g3⟩ | w
      · exact ih a' (by omega) ⟨b', g1, g2, g3⟩
      · have kb : ∀ q b : Nat, b ≤ q → a < b → b < D → C a b → ∃ a b : Nat, FstP C D a b := by
          intro q
          induction q with
          | zero => intro b b1 b2; omega
          | succ q iq =>
            intro b b1 b2 b3 b4
            rcases Classical.em (∃ b' : Nat, a < b' ∧ b' < b ∧ C a b') with ⟨b', g1, g2, g3⟩ | w2
            · exact iq b' (by omega) g1 (by omega) g3
            · exact ⟨a, b, b2, b3, b4, fun a' b' g1 g2 g3 g4 => by
                rcases g3 with g3 | ⟨g3, g5⟩
                · exact w ⟨a', b', g3, g1, g2, g4⟩
                · subst g3; exact w2 ⟨b', g1, g5, g4⟩⟩
        obtain ⟨b, b1, b2, b3⟩ := hb
        exact kb b b (Nat.le_refl _) b1 b2 b3
  obtain ⟨a, b, h1, h2, h3⟩ := h
  exact key2 a a (Nat.le_refl _) ⟨b, h1, h2, h3⟩
theorem FstP_cg {C C2 : Nat → Nat → Prop} {D a b : Nat} (h : ∀ a b : Nat, a < b → b < D → (C a b ↔ C2 a b)) : FstP C D a b ↔ FstP C2 D a b := by
  unfold FstP
  constructor
  · rintro ⟨h1, h2, h3, h4⟩
    exact ⟨h1, h2, (h a b h1 h2).mp h3, fun a' b' g1 g2 g3 g4 => h4 a' b' g1 g2 g3 ((h a' b' g1 g2).mpr g4)⟩
  · rintro ⟨h1, h2, h3, h4⟩
    exact ⟨h1, h2, (h a b h1 h2).mpr h3, fun a' b' g1 g2 g3 g4 => h4 a' b' g1 g2 g3 ((h a' b' g1 g2).mp g4)⟩
/-- the pins at a net, counted -/
theorem pa_all {gone pins old : Int → Int} {ρ : ga_S} {s : Int} {D : Nat} (hD : ρ.1 70 s = D) (h1 : ∀ d : Int, 0 ≤ d → d < D → gone d = ρ.1 68 (30 * s + d)) (h2 : ∀ j : Int, 0 ≤ j → j < 4 * D → pins j = ρ.1 69 (120 * s + j)) {n : Int} (n1 : 0 ≤ n) (n2 : n < 40) : paF gone pins old (4 * D) n = allB ρ s n := by
  unfold paF
  rw [if_pos ⟨n1, n2⟩]
  unfold paN allB
  rw [hD, Int.toNat_natCast]
  exact sz_congr (fun z hz => by rw [h1 _ (by omega) (by omega), h2 _ (by omega) (by omega)])
/-- the net between two devices: the class's and the reference's -/
theorem bet_co {pa port pins : Int → Int} {ρ : ga_S} {s : Int} {N D : Nat} (hD : ρ.1 70 s = D) (hpt : ∀ n : Int, 0 ≤ n → n < N → port n = vT s ρ n) (hpn : ∀ j : Int, 0 ≤ j → j < 4 * D → pins j = vP s ρ j) (hpr : ∀ j : Int, 0 ≤ j → j < 4 * D → -1 ≤ pins j ∧ pins j < N) (hpa : ∀ n : Int, 0 ≤ n → n < N → pa n = allB ρ s n) {a b : Int} (a1 : 0 ≤ a) (ab : a ≠ b) (b1 : 0 ≤ b) (a2 : a < D) (b2 : b < D) (ga : ρ.1 68 (30 * s + a) = 0) (gb : ρ.1 68 (30 * s + b) = 0) (ta : twoP (vP s ρ) (ρ.1 71) (vK s ρ) a) : betF pa port pins a b 2 = lstF (coC s a b ρ) N := by
  have ta0 := ta.1
  have ta1 := ta.2.1
  have A0 := hpn (a * 4 + 0) (by omega) (by omega)
  have A1 := hpn (a * 4 + 1) (by omega) (by omega)
  have B0 := hpn (b * 4 + 0) (by omega) (by omega)
  have B1 := hpn (b * 4 + 1) (by omega) (by omega)
  have R0 := hpr (a * 4 + 0) (by omega) (by omega)
  have R1 := hpr (a * 4 + 1) (by omega) (by omega)
  rw [← A0] at ta0
  rw [← A1] at ta1
  have hneg : ∀ j : Nat, j < 2 → pins (a * 4 + j) ≠ -1 := by
    intro j hj
    rcases (show j = 0 ∨ j = 1 by omega) with q | q <;> subst q
    · exact ta0
    · exact ta1
  -- three pins of two devices on one net are three
  have THREE : ∀ n : Int, (pins (a * 4 + 0) = n ∨ pins (a * 4 + 1) = n) → pins (b * 4 + 0) = n → pins (b * 4 + 1) = n → 3 ≤ allB ρ s n := by
    intro n ha h0 h1
    unfold allB
    rw [hD, Int.toNat_natCast]
    have pz : ∀ z : Nat, (∃ d : Int, (d = a ∨ d = b) ∧ 4 * d ≤ z ∧ z < 4 * d + 4) → pins (z : Int) = n → ρ.1 68 (30 * s + (z : Int) / 4) = 0 ∧ ρ.1 69 (120 * s + z) = n := by
      rintro z ⟨d, hd, z1, z2⟩ hz
      rw [show (z : Int) / 4 = d by omega]
      refine ⟨?_, ?_⟩
      · rcases hd with q | q <;> rw [q] <;> assumption
      · rw [← hz]
        rcases hd with q | q <;> exact (hpn z (by omega) (by omega)).symm
    obtain ⟨k, hk, hkn⟩ : ∃ k : Nat, k < 2 ∧ pins (a * 4 + k) = n := by
      rcases ha with q | q
      · exact ⟨0, by omega, q⟩
      · exact ⟨1, by omega, q⟩
    have e0 : ((4 * a.toNat + k : Nat) : Int) = a * 4 + k := by omega
    have e1 : ((4 * b.toNat + 0 : Nat) : Int) = b * 4 + 0 := by omega
    have e2 : ((4 * b.toNat + 1 : Nat) : Int) = b * 4 + 1 := by omega
    exact sz_3 (P := fun z => ρ.1 68 (30 * s + z / 4) = 0 ∧ ρ.1 69 (120 * s + z) = n) (i := 4 * a.toNat + k) (j := 4 * b.toNat + 0) (k := 4 * b.toNat + 1) (by omega) (by omega) (by omega) (by omega) (by omega) (by omega) (pz _ ⟨a, Or.inl rfl, by omega, by omega⟩ (by rw [e0]; exact hkn)) (pz _ ⟨b, Or.inr rfl, by omega, by omega⟩ (by rw [e1]; exact h0)) (pz _ ⟨b, Or.inr rfl, by omega, by omega⟩ (by rw [e2]; exact h1))
  -- candidates
  have CAND : ∀ n : Int, (∃ j : Nat, j < 2 ∧ betC pa port pins a b j ∧ pins (a * 4 + j) = n) ↔ (0 ≤ n ∧ n < N ∧ coC s a b ρ n) := by
    intro n
    unfold coC
    rw [← A0, ← A1, ← B0, ← B1]
    constructor
    · rintro ⟨j, hj, ⟨c1, c2, c3, c4⟩, c5⟩
      have hn : 0 ≤ n ∧ n < N := by
        rcases (show j = 0 ∨ j = 1 by omega) with q | q <;> subst q
        · have c5' : pins (a * 4 + 0) = n := c5
          exact ⟨by omega, by omega⟩
        · have c5' : pins (a * 4 + 1) = n := c5
          exact ⟨by omega, by omega⟩
      rw [c5] at c1 c2 c3 c4
      rw [hpa n hn.1 hn.2] at c2
      rw [hpt n hn.1 hn.2] at c1
      have aa : pins (a * 4 + 0) = n ∨ pins (a * 4 + 1) = n := by
        rcases (show j = 0 ∨ j = 1 by omega) with q | q <;> subst q
        · exact Or.inl c5
        · exact Or.inr c5
      refine ⟨hn.1, hn.2, ?_, ?_, c1, c2⟩
      · rcases (show j = 0 ∨ j = 1 by omega) with q | q <;> subst q
        · rw [tv1 (show pins (a * 4 + 0) = n from c5), tvz (show ¬ pins (a * 4 + 1) = n from c3)]; rfl
        · rw [tvz (show ¬ pins (a * 4 + 0) = n from c3), tv1 (show pins (a * 4 + 1) = n from c5)]; rfl
      · rcases Classical.em (pins (b * 4 + 0) = n) with w0 | w0 <;> rcases Classical.em (pins (b * 4 + 1) = n) with w1 | w1
        · have := THREE n aa w0 w1
          omega
        · rw [tv1 w0, tvz w1]; rfl
        · rw [tvz w0, tv1 w1]; rfl
        · exact absurd c4 (fun z => z.elim w0 w1)
    · rintro ⟨n1, n2, c1, c2, c3, c4⟩
      have bb : pins (b * 4 + 0) = n ∨ pins (b * 4 + 1) = n := by
        rcases Classical.em (pins (b * 4 + 0) = n) with w0 | w0
        · exact Or.inl w0
        · rcases Classical.em (pins (b * 4 + 1) = n) with w1 | w1
          · exact Or.inr w1
          · rw [tvz w0, tvz w1] at c2; exact absurd c2 (by decide)
      rcases Classical.em (pins (a * 4 + 0) = n) with w0 | w0 <;> rcases Classical.em (pins (a * 4 + 1) = n) with w1 | w1
      · rw [tv1 w0, tv1 w1] at c1; exact absurd c1 (by decide)
      · refine ⟨0, by omega, ⟨?_, ?_, ?_, ?_⟩, w0⟩
        · show port (pins (a * 4 + 0)) = -1; rw [w0, hpt n n1 n2]; exact c3
        · show pa (pins (a * 4 + 0)) = 2; rw [w0, hpa n n1 n2]; exact c4
        · show pins (a * 4 + (1 - 0)) ≠ pins (a * 4 + 0); rw [w0]; exact w1
        · show pins (b * 4 + 0) = pins (a * 4 + 0) ∨ pins (b * 4 + 1) = pins (a * 4 + 0); rw [w0]; exact bb
      · refine ⟨1, by omega, ⟨?_, ?_, ?_, ?_⟩, w1⟩
        · show port (pins (a * 4 + 1)) = -1; rw [w1, hpt n n1 n2]; exact c3
        · show pa (pins (a * 4 + 1)) = 2; rw [w1, hpa n n1 n2]; exact c4
        · show pins (a * 4 + (1 - 1)) ≠ pins (a * 4 + 1); rw [w1]; exact w0
        · show pins (b * 4 + 0) = pins (a * 4 + 1) ∨ pins (b * 4 + 1) = pins (a * 4 + 1); rw [w1]; exact bb
      · rw [tvz w0, tvz w1] at c1; exact absurd c1 (by decide)
  rcases betF_is (pa := pa) (port := port) (pins := pins) (a := a) (b := b) 2 hneg with ⟨h1, h2⟩ | ⟨⟨j, j1, j2, j3⟩, h2⟩
  · rw [h1]
    rcases lstF_is (coC s a b ρ) N with ⟨q1, _⟩ | ⟨q1, q2, q3, _⟩
    · exact q1.symm
    · obtain ⟨j, j1, j2, _⟩ := (CAND _).mpr ⟨q1, q2, q3⟩
      exact absurd j2 (h2 j j1)
  · have c := (CAND (pins (a * 4 + j))).mp ⟨j, j1, j2, rfl⟩
    rw [j3]
    refine (lstF_one c.1 c.2.1 c.2.2 (fun i i1 i2 i3 => ?_)).symm
    obtain ⟨k, k1, k2, k3⟩ := (CAND i).mpr ⟨i1, by omega, i3⟩
    have := h2 k k1 k2
    omega
