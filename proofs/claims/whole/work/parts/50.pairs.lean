-- a pair more: the sorts and the evenness after it
noncomputable def Kx (β : ga_S) (ch s1 s2 : Int → Int) (p x : Int) : Int := sT s1 s2 x * 4096 + kV β (dv β ch p x) (x % 40)
/-- both nets lists, as looked at -/
abbrev lkd (β : ga_S) (ch s1 s2 nets1 keys1 nets2 keys2 : Int → Int) (p : Int) (c1 c2 : Nat) : Prop := LK s1 (fun k => β.1 69 (4 * ln β p + k)) (fun k => gB β (4 * ln β p + k)) nets1 keys1 c1 4 ∧ LK s2 (fun k => β.1 69 (4 * (30 + ch p) + k)) (fun k => gB β (4 * (30 + ch p) + k)) nets2 keys2 c2 4 ∧ (∀ k : Int, 0 ≤ k → k < 4 → β.1 69 (4 * ln β p + k) ≠ -1 → bU β (β.1 69 (4 * ln β p + k)) ∧ 0 ≤ β.1 69 (4 * ln β p + k) ∧ β.1 69 (4 * ln β p + k) < 40) ∧ (∀ k : Int, 0 ≤ k → k < 4 → β.1 69 (4 * (30 + ch p) + k) ≠ -1 → bU β (40 + β.1 69 (4 * (30 + ch p) + k)) ∧ 0 ≤ β.1 69 (4 * (30 + ch p) + k) ∧ β.1 69 (4 * (30 + ch p) + k) < 40)
section Pairs
variable {β : ga_S} {ch s1 s2 nets1 keys1 nets2 keys2 m : Int → Int} {p : Int} {c1 c2 : Nat}
theorem Kx_iff (hp : 0 ≤ p) (hs : SR β ch p s1 s2) {x y : Int} (x1 : 0 ≤ x) (x2 : x < 80) (y1 : 0 ≤ y) (y2 : y < 80) (ux : bU β x) (uy : bU β y) : Kx β ch s1 s2 p x = Kx β ch s1 s2 p y ↔ SE β ch (p + 1) x y := by
  rw [SE_s hp, ← hs.1 x y x1 x2 y1 y2 ux uy]
  unfold Kx
  have a := kV_b (β := β) (x := dv β ch p x) (n := x % 40)
  have b := kV_b (β := β) (x := dv β ch p y) (n := y % 40)
  omega
theorem key1_is (h : lkd β ch s1 s2 nets1 keys1 nets2 keys2 p c1 c2) {i : Int} (i1 : 0 ≤ i) (i2 : i < c1) : 0 ≤ nets1 i ∧ nets1 i < 40 ∧ bU β (nets1 i) ∧ keys1 i = Kx β ch s1 s2 p (nets1 i) ∧ 0 < kV β (dv β ch p (nets1 i)) (nets1 i % 40) := by
  obtain ⟨h1, h2, h3, h4⟩ := h
  obtain ⟨n1, k, k1, k2, k3⟩ := h1.2.1 i i1 i2
  have u := h3 k k1 k2 (by rw [show β.1 69 (4 * ln β p + k) = nets1 i from k3]; exact n1)
  rw [show β.1 69 (4 * ln β p + k) = nets1 i from k3] at u
  have e1 : nets1 i % 40 = nets1 i := by omega
  have e2 : dv β ch p (nets1 i) = ln β p := if_pos u.2.2
  refine ⟨u.2.1, u.2.2, u.1, ?_, ?_⟩
  · unfold Kx sT
    rw [if_pos u.2.2, e1, e2]
    exact h1.2.2.2.2 i i1 i2
  · rw [e1, e2]
    exact kV_pos.mpr ⟨k, k1, k2, k3⟩
theorem key2_is (h : lkd β ch s1 s2 nets1 keys1 nets2 keys2 p c1 c2) {i : Int} (i1 : 0 ≤ i) (i2 : i < c2) : 0 ≤ nets2 i ∧ nets2 i < 40 ∧ bU β (40 + nets2 i) ∧ keys2 i = Kx β ch s1 s2 p (40 + nets2 i) ∧ 0 < kV β (dv β ch p (40 + nets2 i)) ((40 + nets2 i) % 40) := by
  obtain ⟨h1, h2, h3, h4⟩ := h
  obtain ⟨n1, k, k1, k2, k3⟩ := h2.2.1 i i1 i2
  have u := h4 k k1 k2 (by rw [show β.1 69 (4 * (30 + ch p) + k) = nets2 i from k3]; exact n1)
  rw [show β.1 69 (4 * (30 + ch p) + k) = nets2 i from k3] at u
  have e1 : (40 + nets2 i) % 40 = nets2 i := by omega
  have e2 : dv β ch p (40 + nets2 i) = 30 + ch p := if_neg (by omega)
  refine ⟨u.2.1, u.2.2, u.1, ?_, ?_⟩
  · unfold Kx sT
    rw [if_neg (by omega), e1, e2, show 40 + nets2 i - 40 = nets2 i by omega]
    exact h2.2.2.2.2 i i1 i2
  · rw [e1, e2]
    exact kV_pos.mpr ⟨k, k1, k2, k3⟩
theorem tch1 (h : lkd β ch s1 s2 nets1 keys1 nets2 keys2 p c1 c2) {x : Int} (x1 : 0 ≤ x) (x2 : x < 40) : 0 < kV β (dv β ch p x) (x % 40) ↔ ∃ k : Int, 0 ≤ k ∧ k < 4 ∧ β.1 69 (4 * ln β p + k) = x := by
  have e1 : x % 40 = x := by omega
  have e2 : dv β ch p x = ln β p := if_pos x2
  rw [e1, e2]
  exact kV_pos
theorem tch2 (h : lkd β ch s1 s2 nets1 keys1 nets2 keys2 p c1 c2) {x : Int} (x1 : 0 ≤ x) (x2 : x < 40) : 0 < kV β (dv β ch p (40 + x)) ((40 + x) % 40) ↔ ∃ k : Int, 0 ≤ k ∧ k < 4 ∧ β.1 69 (4 * (30 + ch p) + k) = x := by
  have e1 : (40 + x) % 40 = x := by omega
  have e2 : dv β ch p (40 + x) = 30 + ch p := if_neg (by omega)
  rw [e1, e2]
  exact kV_pos
theorem tot1 (h : lkd β ch s1 s2 nets1 keys1 nets2 keys2 p c1 c2) (F : Int → Prop) : sz (fun n => tv (bU β n ∧ 0 < kV β (dv β ch p n) (n % 40) ∧ F n)) 40 = sz (fun i => tv (F (nets1 i))) c1 := by
  rw [← bij h.1 (U := fun n => bU β n) (F := F) h.2.2.1]
  exact sz_congr (fun n hn => tv_congr (and_congr_right (fun _ => and_congr_left (fun _ => tch1 h (by omega) (by omega)))))
theorem tot2 (h : lkd β ch s1 s2 nets1 keys1 nets2 keys2 p c1 c2) (F : Int → Prop) : sz (fun n => tv (bU β (40 + n) ∧ 0 < kV β (dv β ch p (40 + n)) ((40 + n) % 40) ∧ F n)) 40 = sz (fun i => tv (F (nets2 i))) c2 := by
  rw [← bij h.2.1 (U := fun n => bU β (40 + n)) (F := F) h.2.2.2]
  exact sz_congr (fun n hn => tv_congr (and_congr_right (fun _ => and_congr_left (fun _ => tch2 h (by omega) (by omega)))))
theorem KC1 (hp : 0 ≤ p) (hs : SR β ch p s1 s2) (h : lkd β ch s1 s2 nets1 keys1 nets2 keys2 p c1 c2) {x : Int} (x1 : 0 ≤ x) (x2 : x < 80) (ux : bU β x) (tx : 0 < kV β (dv β ch p x) (x % 40)) : sz (fun n => tv (bU β n ∧ SE β ch (p + 1) x n)) 40 = sz (fun i => tv (keys1 i = Kx β ch s1 s2 p x)) c1 := by
  rw [sz_congr (g := fun n => tv (bU β n ∧ 0 < kV β (dv β ch p n) (n % 40) ∧ SE β ch (p + 1) x n)) (fun n _ => tv_congr (and_congr_right (fun _ => ⟨fun z => ⟨by rw [← ((SE_s hp).mp z).2]; exact tx, z⟩, fun z => z.2⟩))), tot1 h]
  refine sz_congr (fun i hi => tv_congr ?_)
  have k := key1_is h (i := i) (by omega) (by omega)
  rw [k.2.2.2.1, ← Kx_iff hp hs x1 x2 k.1 (by omega) ux k.2.2.1]
  exact eq_comm
theorem KC2 (hp : 0 ≤ p) (hs : SR β ch p s1 s2) (h : lkd β ch s1 s2 nets1 keys1 nets2 keys2 p c1 c2) {x : Int} (x1 : 0 ≤ x) (x2 : x < 80) (ux : bU β x) (tx : 0 < kV β (dv β ch p x) (x % 40)) : sz (fun n => tv (bU β (40 + n) ∧ SE β ch (p + 1) x (40 + n))) 40 = sz (fun i => tv (keys2 i = Kx β ch s1 s2 p x)) c2 := by
  rw [sz_congr (g := fun n => tv (bU β (40 + n) ∧ 0 < kV β (dv β ch p (40 + n)) ((40 + n) % 40) ∧ SE β ch (p + 1) x (40 + n))) (fun n _ => tv_congr (and_congr_right (fun _ => ⟨fun z => ⟨by rw [← ((SE_s hp).mp z).2]; exact tx, z⟩, fun z => z.2⟩))), tot2 h (fun n => SE β ch (p + 1) x (40 + n))]
  refine sz_congr (fun i hi => tv_congr ?_)
  have k := key2_is h (i := i) (by omega) (by omega)
  rw [k.2.2.2.1, ← Kx_iff hp hs x1 x2 (by omega) (by omega) ux k.2.2.1]
  exact eq_comm
theorem sz_split {P T : Int → Prop} (n : Nat) : sz (fun i => tv (P i)) n = sz (fun i => tv (P i ∧ T i)) n + sz (fun i => tv (P i ∧ ¬ T i)) n := by
  rw [← sz_add]
  refine sz_congr (fun i _ => ?_)
  show tv (P i) = tv (P i ∧ T i) + tv (P i ∧ ¬ T i)
  by_cases q : T i
  · rw [tvz (p := P i ∧ ¬ T i) (fun z => z.2 q), Int.add_zero]
    exact tv_congr ⟨fun z => ⟨z, q⟩, fun z => z.1⟩
  · rw [tvz (p := P i ∧ T i) (fun z => q z.2), Int.zero_add]
    exact tv_congr ⟨fun z => ⟨z, q⟩, fun z => z.1⟩
theorem pair_EV (hp : 0 ≤ p) (hs : SR β ch p s1 s2) (he : EV β ch p) (h : lkd β ch s1 s2 nets1 keys1 nets2 keys2 p c1 c2) (hc : c1 = c2) (hi : inj m c1) (hk : ∀ i : Int, 0 ≤ i → i < c1 → keys2 (m i) = keys1 i) : EV β ch (p + 1) := by
  subst hc
  intro x x1 x2 ux
  by_cases tx : 0 < kV β (dv β ch p x) (x % 40)
  · rw [KC1 hp hs h x1 x2 ux tx, KC2 hp hs h x1 x2 ux tx]
    exact inj_sz hi (fun i a b => by rw [hk i a b])
  · have zx : kV β (dv β ch p x) (x % 40) = 0 := by have := kV_b (β := β) (x := dv β ch p x) (n := x % 40); omega
    have E := he x x1 x2 ux
    rw [sz_split (P := fun n => bU β n ∧ SE β ch p x n) (T := fun n => 0 < kV β (dv β ch p n) (n % 40)), sz_split (P := fun n => bU β (40 + n) ∧ SE β ch p x (40 + n)) (T := fun n => 0 < kV β (dv β ch p (40 + n)) ((40 + n) % 40))] at E
    have a1 : sz (fun n => tv ((bU β n ∧ SE β ch p x n) ∧ 0 < kV β (dv β ch p n) (n % 40))) 40 = sz (fun i => tv (SE β ch p x (nets1 i))) c1 := by
      rw [← tot1 h (fun n => SE β ch p x n)]
      exact sz_congr (fun n _ => tv_congr ⟨fun z => ⟨z.1.1, z.2, z.1.2⟩, fun z => ⟨⟨z.1, z.2.2⟩, z.2.1⟩⟩)
    have a2 : sz (fun n => tv ((bU β (40 + n) ∧ SE β ch p x (40 + n)) ∧ 0 < kV β (dv β ch p (40 + n)) ((40 + n) % 40))) 40 = sz (fun i => tv (SE β ch p x (40 + nets2 i))) c1 := by
      rw [← tot2 h (fun n => SE β ch p x (40 + n))]
      exact sz_congr (fun n _ => tv_congr ⟨fun z => ⟨z.1.1, z.2, z.1.2⟩, fun z => ⟨⟨z.1, z.2.2⟩, z.2.1⟩⟩)
    have a3 : sz (fun i => tv (SE β ch p x (nets1 i))) c1 = sz (fun i => tv (SE β ch p x (40 + nets2 i))) c1 := inj_sz hi (fun i a b => by
      have k1 := key1_is h a b
      have mi := hi.1 i a b
      have k2 := key2_is h mi.1 mi.2
      have e := hk i a b
      rw [k1.2.2.2.1, k2.2.2.2.1] at e
      have e2 := ((SE_s hp).mp ((Kx_iff hp hs (by omega) (by omega) k1.1 (by omega) k2.2.2.1 k1.2.2.1).mp e)).1
      exact ⟨fun z => SE_t z (SE_y e2), fun z => SE_t z e2⟩)
    have b1 : sz (fun n => tv (bU β n ∧ SE β ch (p + 1) x n)) 40 = sz (fun n => tv ((bU β n ∧ SE β ch p x n) ∧ ¬ 0 < kV β (dv β ch p n) (n % 40))) 40 :=
      sz_congr (fun n _ => tv_congr (by
        rw [SE_s hp, zx]
        have := (kV_b (β := β) (x := dv β ch p n) (n := (n : Int) % 40)).1
        constructor
        · rintro ⟨q1, q2, q3⟩; exact ⟨⟨q1, q2⟩, by omega⟩
        · rintro ⟨⟨q1, q2⟩, q3⟩; exact ⟨q1, q2, by omega⟩))
    have b2 : sz (fun n => tv (bU β (40 + n) ∧ SE β ch (p + 1) x (40 + n))) 40 = sz (fun n => tv ((bU β (40 + n) ∧ SE β ch p x (40 + n)) ∧ ¬ 0 < kV β (dv β ch p (40 + n)) ((40 + n) % 40))) 40 :=
      sz_congr (fun n _ => tv_congr (by
        rw [SE_s hp, zx]
        have := (kV_b (β := β) (x := dv β ch p (40 + n)) (n := (40 + (n : Int)) % 40)).1
        constructor
        · rintro ⟨q1, q2, q3⟩; exact ⟨⟨q1, q2⟩, by omega⟩
        · rintro ⟨⟨q1, q2⟩, q3⟩; exact ⟨q1, q2, by omega⟩))
    rw [b1, b2]
    omega
theorem pair_no (hp : 0 ≤ p) (hp2 : p < 30) (hs : SR β ch p s1 s2) (h : lkd β ch s1 s2 nets1 keys1 nets2 keys2 p c1 c2) (hn : c1 = c2 → ∃ K : Int, sz (fun j => tv (keys2 j = K)) c2 < sz (fun i => tv (keys1 i = K)) c1) : ¬ EV β ch (p + 1) := by
  intro he
  have key : ∀ K : Int, sz (fun i => tv (keys1 i = K)) c1 = sz (fun j => tv (keys2 j = K)) c2 := by
    intro K
    by_cases q : ∃ i : Int, 0 ≤ i ∧ i < c1 ∧ keys1 i = K
    · obtain ⟨i, i1, i2, i3⟩ := q
      have k := key1_is h i1 i2
      have E := he (nets1 i) k.1 (by omega) k.2.2.1
      rw [KC1 hp hs h k.1 (by omega) k.2.2.1 k.2.2.2.2, KC2 hp hs h k.1 (by omega) k.2.2.1 k.2.2.2.2, ← k.2.2.2.1, i3] at E
      exact E
    · by_cases q2 : ∃ i : Int, 0 ≤ i ∧ i < c2 ∧ keys2 i = K
      · obtain ⟨i, i1, i2, i3⟩ := q2
        have k := key2_is h i1 i2
        have E := he (40 + nets2 i) (by omega) (by omega) k.2.2.1
        rw [KC1 hp hs h (by omega) (by omega) k.2.2.1 k.2.2.2.2, KC2 hp hs h (by omega) (by omega) k.2.2.1 k.2.2.2.2, ← k.2.2.2.1, i3] at E
        exact E
      · rw [sz_congr (f := fun i => tv (keys1 i = K)) (g := fun _ => 0) (fun i hi => tvz (fun z => q ⟨i, by omega, by omega, z⟩)), sz_congr (f := fun i => tv (keys2 i = K)) (g := fun _ => 0) (fun i hi => tvz (fun z => q2 ⟨i, by omega, by omega, z⟩)), sz_zero, sz_zero]
  obtain ⟨B, hB⟩ : ∃ B : Nat, B = 675840 := ⟨_, rfl⟩
  have f1 := sz_fib (f := keys1) (B := B) c1 (fun i a b => by
    have k := key1_is h a b
    have r := hs.2 (nets1 i) k.1 (by omega) k.2.2.1
    have v := kV_b (β := β) (x := dv β ch p (nets1 i)) (n := nets1 i % 40)
    rw [k.2.2.2.1]
    unfold Kx
    omega)
  have f2 := sz_fib (f := keys2) (B := B) c2 (fun i a b => by
    have k := key2_is h a b
    have r := hs.2 (40 + nets2 i) (by omega) (by omega) k.2.2.1
    have v := kV_b (β := β) (x := dv β ch p (40 + nets2 i)) (n := (40 + nets2 i) % 40)
    rw [k.2.2.2.1]
    unfold Kx
    omega)
  rw [sz_congr (g := fun K => sz (fun j => tv (keys2 j = K)) c2) (fun i _ => key i)] at f1
  obtain ⟨K, hK⟩ := hn (by omega)
  have := key K
  omega
theorem pair_SR {s3 s4 : Int → Int} (hp : 0 ≤ p) (hs : SR β ch p s1 s2) (h : lkd β ch s1 s2 nets1 keys1 nets2 keys2 p c1 c2) (hc : c1 = c2) (hi : inj m c1) (hk : ∀ i : Int, 0 ≤ i → i < c1 → keys2 (m i) = keys1 i) (q1 : CSr nets1 (fun i => 41 + p * 4 + likeF keys1 c1 i) s1 s3 c1) (q2 : CSr (fun i => nets2 (m i)) (fun i => 41 + p * 4 + likeF keys1 c1 i) s2 s4 c1) : SR β ch (p + 1) s3 s4 := by
  subst hc
  have hc4 : c1 ≤ 4 := h.1.1
  have T : ∀ x : Int, 0 ≤ x → x < 80 → bU β x → 0 < kV β (dv β ch p x) (x % 40) → ∃ i : Int, 0 ≤ i ∧ i < c1 ∧ sT s3 s4 x = 41 + p * 4 + likeF keys1 c1 i ∧ keys1 i = Kx β ch s1 s2 p x := by
    intro x x1 x2 ux tx
    by_cases q : x < 40
    · obtain ⟨k, k1, k2, k3⟩ := (tch1 h x1 q).mp tx
      obtain ⟨i, i1, i2, i3⟩ := h.1.2.2.2.1 k k1 k2 (by show β.1 69 (4 * ln β p + k) ≠ -1; omega)
      have i4 : nets1 i = x := i3.trans k3
      refine ⟨i, i1, i2, ?_, ?_⟩
      · unfold sT
        rw [if_pos q, ← i4]
        exact q1.2 i i1 i2
      · rw [← i4]
        exact (key1_is h i1 i2).2.2.2.1
    · have e : x = 40 + (x - 40) := by omega
      rw [e] at tx
      obtain ⟨k, k1, k2, k3⟩ := (tch2 h (by omega) (by omega)).mp tx
      obtain ⟨j, j1, j2, j3⟩ := h.2.1.2.2.2.1 k k1 k2 (by show β.1 69 (4 * (30 + ch p) + k) ≠ -1; omega)
      have j4 : nets2 j = x - 40 := j3.trans k3
      obtain ⟨i, i1, i2, i3⟩ := inj_sur hi j1 j2
      refine ⟨i, i1, i2, ?_, ?_⟩
      · unfold sT
        rw [if_neg q, ← j4, ← i3]
        exact q2.2 i i1 i2
      · rw [← hk i i1 i2, i3, (key2_is h j1 j2).2.2.2.1, j4, ← e]
  have N : ∀ x : Int, 0 ≤ x → x < 80 → bU β x → ¬ 0 < kV β (dv β ch p x) (x % 40) → sT s3 s4 x = sT s1 s2 x := by
    intro x x1 x2 ux tx
    unfold sT
    by_cases q : x < 40
    · rw [if_pos q, if_pos q]
      exact q1.1 x (fun i a b z => tx (by rw [← z]; exact (key1_is h a b).2.2.2.2))
    · rw [if_neg q, if_neg q]
      refine q2.1 (x - 40) (fun i a b z => tx ?_)
      have mi := hi.1 i a b
      have k := (key2_is h mi.1 mi.2).2.2.2.2
      rw [show nets2 (m i) = x - 40 from z, show 40 + (x - 40) = x by omega] at k
      exact k
  refine ⟨fun x y x1 x2 y1 y2 ux uy => ?_, fun x x1 x2 ux => ?_⟩
  · rw [← Kx_iff hp hs x1 x2 y1 y2 ux uy]
    have vx := kV_b (β := β) (x := dv β ch p x) (n := x % 40)
    have vy := kV_b (β := β) (x := dv β ch p y) (n := y % 40)
    have rx := hs.2 x x1 x2 ux
    have ry := hs.2 y y1 y2 uy
    by_cases tx : 0 < kV β (dv β ch p x) (x % 40)
    · obtain ⟨i, i1, i2, i3, i4⟩ := T x x1 x2 ux tx
      have li := likeF_is (k1 := keys1) hc4 i1 i2
      by_cases ty : 0 < kV β (dv β ch p y) (y % 40)
      · obtain ⟨j, j1, j2, j3, j4⟩ := T y y1 y2 uy ty
        rw [i3, j3, ← i4, ← j4, ← likeF_eq hc4 i1 i2 j1 j2]
        omega
      · rw [i3, N y y1 y2 uy ty]
        unfold Kx
        omega
    · by_cases ty : 0 < kV β (dv β ch p y) (y % 40)
      · obtain ⟨j, j1, j2, j3, j4⟩ := T y y1 y2 uy ty
        have lj := likeF_is (k1 := keys1) hc4 j1 j2
        rw [j3, N x x1 x2 ux tx]
        unfold Kx
        omega
      · rw [N x x1 x2 ux tx, N y y1 y2 uy ty]
        unfold Kx
        omega
  · have rx := hs.2 x x1 x2 ux
    by_cases tx : 0 < kV β (dv β ch p x) (x % 40)
    · obtain ⟨i, i1, i2, i3, i4⟩ := T x x1 x2 ux tx
      have li := likeF_is (k1 := keys1) hc4 i1 i2
      omega
    · rw [N x x1 x2 ux tx]
      omega
end Pairs
