-- pairs one to one; the match tested by both
theorem sz_bij {P Q : Int → Prop} {n c : Nat} (m m2 : Int → Int) (h1 : ∀ i : Int, 0 ≤ i → i < n → P i → 0 ≤ m i ∧ m i < c ∧ Q (m i) ∧ m2 (m i) = i) (h2 : ∀ j : Int, 0 ≤ j → j < c → Q j → 0 ≤ m2 j ∧ m2 j < n ∧ P (m2 j) ∧ m (m2 j) = j) : sz (fun i => tv (P i)) n = sz (fun j => tv (Q j)) c := by
  have a := sz_img (P := P) (Q := Q) (m := m) (c := c) (n := n) (fun j j1 j2 q => ⟨m2 j, (h2 j j1 j2 q).1, (h2 j j1 j2 q).2.1, (h2 j j1 j2 q).2.2.1, (h2 j j1 j2 q).2.2.2⟩)
  have b := sz_img (P := Q) (Q := P) (m := m2) (c := n) (n := c) (fun j j1 j2 q => ⟨m j, (h1 j j1 j2 q).1, (h1 j j1 j2 q).2.1, (h1 j j1 j2 q).2.2.1, (h1 j j1 j2 q).2.2.2⟩)
  omega
theorem sz_sur {P Q : Int → Prop} {n c : Nat} (m m2 : Int → Int) (h1 : ∀ i : Int, 0 ≤ i → i < n → P i → 0 ≤ m i ∧ m i < c ∧ Q (m i) ∧ m2 (m i) = i) (he : sz (fun i => tv (P i)) n = sz (fun j => tv (Q j)) c) : ∀ j : Int, 0 ≤ j → j < c → Q j → ∃ i : Int, 0 ≤ i ∧ i < n ∧ P i ∧ m i = j := by
  intro j j1 j2 q
  rcases Classical.em (∃ i : Int, 0 ≤ i ∧ i < n ∧ P i ∧ m i = j) with w | w
  · exact w
  · have b := sz_img (P := fun x => Q x ∧ x ≠ j) (Q := P) (m := m2) (c := n) (n := c) (fun i i1 i2 p => ⟨m i, (h1 i i1 i2 p).1, (h1 i i1 i2 p).2.1, ⟨(h1 i i1 i2 p).2.2.1, fun z => w ⟨i, i1, i2, p, z⟩⟩, (h1 i i1 i2 p).2.2.2⟩)
    have l := sz_lt (P := fun x => Q x ∧ x ≠ j) (Q := Q) (n := c) (k := j.toNat) (fun i _ z => z.1) (by omega) (by rw [Int.toNat_of_nonneg j1]; exact fun z => z.2 rfl) (by rw [Int.toNat_of_nonneg j1]; exact q)
    omega
theorem tot_eq2 {Q1 Q2 : Int → Prop} {f1 f2 : Int → Int} {n B : Nat} (b1 : ∀ i : Nat, i < n → Q1 i → 0 ≤ f1 i ∧ f1 i < B) (b2 : ∀ i : Nat, i < n → Q2 i → 0 ≤ f2 i ∧ f2 i < B) (ht : sz (fun z => tv (Q1 z)) n = sz (fun z => tv (Q2 z)) n)
    (h : ∀ i : Nat, i < n → Q1 i → sz (fun z => tv (Q1 z ∧ f1 z = f1 i)) n = sz (fun z => tv (Q2 z ∧ f2 z = f1 i)) n) (c : Int) : sz (fun z => tv (Q1 z ∧ f1 z = c)) n = sz (fun z => tv (Q2 z ∧ f2 z = c)) n := by
  have nn := fun (Q : Int → Prop) (f : Int → Int) (K : Int) => sz_nn (f := fun z => tv (Q z ∧ f z = K)) (fun _ => tv_le.1) n
  have le : ∀ K : Int, sz (fun z => tv (Q1 z ∧ f1 z = K)) n ≤ sz (fun z => tv (Q2 z ∧ f2 z = K)) n := by
    intro K
    rcases Int.lt_or_le 0 (sz (fun z => tv (Q1 z ∧ f1 z = K)) n) with q | q
    · obtain ⟨i, i1, i2, i3⟩ := sz_pos q
      have := h i i1 i2
      rw [i3] at this
      omega
    · have := nn Q2 f2 K
      omega
  by_cases hc : 0 ≤ c ∧ c < B
  · have s1 := sz_fibQ (B := B) n b1
    have s2 := sz_fibQ (B := B) n b2
    have := sz_same (f := fun K => sz (fun z => tv (Q1 z ∧ f1 z = K)) n) (g := fun K => sz (fun z => tv (Q2 z ∧ f2 z = K)) n) (n := B) (fun i _ => le i) (by rw [s1, s2, ht]) c.toNat (by omega)
    rw [Int.toNat_of_nonneg hc.1] at this
    exact this
  · rw [sz_z (fun i hi => tvz (fun w => by have := b1 i hi w.1; rw [w.2] at this; exact hc this)), sz_z (fun i hi => tvz (fun w => by have := b2 i hi w.1; rw [w.2] at this; exact hc this))]
/-- of equal sums, what is equal but at 0 is equal at 0 -/
theorem tot_0 {Q : Int → Prop} {f1 f2 : Int → Int} {n B : Nat} (b1 : ∀ i : Nat, i < n → Q i → 0 ≤ f1 i ∧ f1 i < ((B + 1 : Nat) : Int)) (b2 : ∀ i : Nat, i < n → Q i → 0 ≤ f2 i ∧ f2 i < ((B + 1 : Nat) : Int)) (h : ∀ c : Int, 1 ≤ c → c < ((B + 1 : Nat) : Int) → sz (fun z => tv (Q z ∧ f1 z = c)) n = sz (fun z => tv (Q z ∧ f2 z = c)) n) : sz (fun z => tv (Q z ∧ f1 z = 0)) n = sz (fun z => tv (Q z ∧ f2 z = 0)) n := by
  have s1 := sz_fibQ (B := B + 1) n b1
  have s2 := sz_fibQ (B := B + 1) n b2
  rw [show B + 1 = 1 + B by omega, sz_sh] at s1 s2
  have e : sz (fun i => sz (fun z => tv (Q z ∧ f1 z = ((1 : Nat) : Int) + i)) n) B = sz (fun i => sz (fun z => tv (Q z ∧ f2 z = ((1 : Nat) : Int) + i)) n) B := sz_congr (fun i hi => h _ (by omega) (by omega))
  have o1 : sz (fun K => sz (fun z => tv (Q z ∧ f1 z = K)) n) 1 = sz (fun z => tv (Q z ∧ f1 z = 0)) n := by
    show 0 + sz (fun z => tv (Q z ∧ f1 z = ((0 : Nat) : Int))) n = _
    rw [Int.zero_add]; rfl
  have o2 : sz (fun K => sz (fun z => tv (Q z ∧ f2 z = K)) n) 1 = sz (fun z => tv (Q z ∧ f2 z = 0)) n := by
    show 0 + sz (fun z => tv (Q z ∧ f2 z = ((0 : Nat) : Int))) n = _
    rw [Int.zero_add]; rfl
  omega
theorem bU_uS {σ : ga_S} {s n : Int} {X : Nat} (hX : σ.1 65 s = X) (hX2 : X ≤ 40) (n1 : 0 ≤ n) (n2 : n < X) : bU σ (40 * s + n) ↔ uS σ s n := by
  unfold bU uS
  rw [show (40 * s + n) / 40 = s by omega, show (40 * s + n) % 40 = n by omega, hX]
  exact ⟨fun w => w.2, fun w => ⟨n2, w⟩⟩
/-- the kept pairs are one to one -/
def prs (σ : ga_S) (f59 : Int → Int) (N D M E : Nat) : Prop := (∀ d : Int, 0 ≤ d → d < 30 → σ.1 78 d = -1 ∨ (d < D ∧ 0 ≤ σ.1 78 d ∧ σ.1 78 d < E ∧ σ.1 78 (30 + σ.1 78 d) = d ∧ σ.1 66 d = σ.1 66 (30 + σ.1 78 d))) ∧ (∀ e : Int, 0 ≤ e → e < 30 → σ.1 78 (30 + e) = -1 ∨ (e < E ∧ 0 ≤ σ.1 78 (30 + e) ∧ σ.1 78 (30 + e) < D ∧ σ.1 78 (σ.1 78 (30 + e)) = e)) ∧ (∀ n : Int, 0 ≤ n → n < 40 → σ.1 79 n = -1 ∨ (n < N ∧ 0 ≤ σ.1 79 n ∧ σ.1 79 n < M ∧ f59 (σ.1 79 n) = n)) ∧ (∀ m : Int, 0 ≤ m → m < 40 → f59 m = -1 ∨ (m < M ∧ 0 ≤ f59 m ∧ f59 m < N ∧ σ.1 79 (f59 m) = m))
section Te
variable {τ σ : ga_S} {N D M E : Nat}
theorem pnO_2 (hd : dsg τ σ N D M E) {d g n : Int} (d1 : 0 ≤ d) (d2 : d < D) : pnO (τ.1 8) (τ.1 5) (τ.1 17) d g n = pO σ d g n := by
  obtain ⟨⟨hs, a1, a2, a3, a4, a5⟩, _, hg, _⟩ := hd
  unfold pnO pO
  apply sz_congr
  intro k hk
  have k1 := (a4 d d1 d2).1
  have hk8 := hs.2.2.2.2.1 d d1 d2
  rw [gB_at (by omega) (by omega), a5 _ (by omega) (by omega), (hg _ (by omega) (by omega)).1, k1, show 30 * (0 : Int) + d = d by omega, show 120 * (0 : Int) + (d * 4 + k) = 4 * d + k by omega]
  exact tv_congr and_comm
theorem pnO_9 (hd : dsg τ σ N D M E) {d g n : Int} (d1 : 0 ≤ d) (d2 : d < E) : pnO (τ.1 15) (τ.1 12) (τ.1 17) d g n = pO σ (30 + d) g n := by
  obtain ⟨_, ⟨hs, a1, a2, a3, a4, a5⟩, hg, _⟩ := hd
  unfold pnO pO
  apply sz_congr
  intro k hk
  have k1 := (a4 d d1 d2).1
  have hk8 := hs.2.2.2.2.1 d d1 d2
  rw [gB_at (by omega) (by omega), a5 _ (by omega) (by omega), (hg _ (by omega) (by omega)).1, k1, show 30 * (1 : Int) + d = 30 + d by omega, show 120 * (1 : Int) + (d * 4 + k) = 4 * (30 + d) + k by omega]
  exact tv_congr and_comm
/-- two devices of one kind have as many pins of each group on paired nets, told slot by slot or net by net -/
theorem slot_net (hw : wfR σ N D M E) {d e : Int} (d1 : 0 ≤ d) (d2 : d < D) (e1 : 0 ≤ e) (e2 : e < E) (ld : bL σ d) (le : bL σ (30 + e)) (hk : σ.1 66 d = σ.1 66 (30 + e)) (f : Int → Int)
    (hf : ∀ n : Int, 0 ≤ n → n < N → uS σ 0 n → 0 ≤ σ.1 79 n ∧ σ.1 79 n < M ∧ f (σ.1 79 n) = n) (hg : ∀ m : Int, 0 ≤ m → m < M → uS σ 1 m → ∃ n : Int, 0 ≤ n ∧ n < N ∧ uS σ 0 n ∧ σ.1 79 n = m) :
    (∀ k : Int, 0 ≤ k → k < 4 → pO σ d (gB σ (4 * d + k)) (σ.1 69 (4 * d + k)) = pO σ (30 + e) (gB σ (4 * d + k)) (if σ.1 69 (4 * d + k) = -1 then -1 else σ.1 79 (σ.1 69 (4 * d + k)))) ↔ ∀ n : Int, 0 ≤ n → n < N → uS σ 0 n → ∀ g : Nat, g < 4 → pO σ d g n = pO σ (30 + e) g (σ.1 79 n) := by
  obtain ⟨_, hD, hD2, hNN, hN2, hk8, _⟩ := hw.1
  obtain ⟨_, hE, hE2, hM, hM2, _, _⟩ := hw.2.1
  obtain ⟨hpB, huB, hgB⟩ := hw.2.2.2.1
  -- the pins' nets are used
  have P0 : ∀ k : Int, 0 ≤ k → k < 4 → σ.1 69 (4 * d + k) = -1 ∨ (0 ≤ σ.1 69 (4 * d + k) ∧ σ.1 69 (4 * d + k) < N ∧ uS σ 0 (σ.1 69 (4 * d + k))) := by
    intro k k1 k2
    have l4 : bL σ ((4 * d + k) / 4) := by rw [show (4 * d + k) / 4 = d by omega]; exact ld
    have p := hpB (4 * d + k) (by omega) (by omega) l4
    by_cases w : σ.1 69 (4 * d + k) = -1
    · exact Or.inl w
    · have u := huB (4 * d + k) (by omega) (by omega) l4 w
      rw [show (4 * d + k) / 120 = 0 by omega] at u
      have u1 := u.1
      rw [show (40 * (0 : Int) + σ.1 69 (4 * d + k)) % 40 = σ.1 69 (4 * d + k) by omega, show (40 * (0 : Int) + σ.1 69 (4 * d + k)) / 40 = 0 by omega, hNN] at u1
      exact Or.inr ⟨by omega, u1, (bU_uS hNN hN2 (by omega) u1).mp u⟩
  have P1 : ∀ k : Int, 0 ≤ k → k < 4 → σ.1 69 (4 * (30 + e) + k) = -1 ∨ (0 ≤ σ.1 69 (4 * (30 + e) + k) ∧ σ.1 69 (4 * (30 + e) + k) < M ∧ uS σ 1 (σ.1 69 (4 * (30 + e) + k))) := by
    intro k k1 k2
    have l4 : bL σ ((4 * (30 + e) + k) / 4) := by rw [show (4 * (30 + e) + k) / 4 = 30 + e by omega]; exact le
    have p := hpB (4 * (30 + e) + k) (by omega) (by omega) l4
    by_cases w : σ.1 69 (4 * (30 + e) + k) = -1
    · exact Or.inl w
    · have u := huB (4 * (30 + e) + k) (by omega) (by omega) l4 w
      rw [show (4 * (30 + e) + k) / 120 = 1 by omega] at u
      have u1 := u.1
      rw [show (40 * (1 : Int) + σ.1 69 (4 * (30 + e) + k)) % 40 = σ.1 69 (4 * (30 + e) + k) by omega, show (40 * (1 : Int) + σ.1 69 (4 * (30 + e) + k)) / 40 = 1 by omega, hM] at u1
      exact Or.inr ⟨by omega, u1, (bU_uS hM hM2 (by omega) u1).mp u⟩
  have G : ∀ k : Int, 0 ≤ k → k < 4 → gB σ (4 * (30 + e) + k) = gB σ (4 * d + k) := fun k k1 k2 => by rw [gB_at k1 k2, gB_at k1 k2, hk]
  -- the numbers of the nets, 0 for none
  let a : Int → Int := fun k => (if σ.1 69 (4 * d + k) = -1 then -1 else σ.1 79 (σ.1 69 (4 * d + k))) + 1
  let b : Int → Int := fun k => σ.1 69 (4 * (30 + e) + k) + 1
  have aB : ∀ i : Nat, i < 4 → 0 ≤ a i ∧ a i < ((40 + 1 : Nat) : Int) := by
    intro i hi
    show 0 ≤ (if σ.1 69 (4 * d + (i : Int)) = -1 then -1 else σ.1 79 (σ.1 69 (4 * d + i))) + 1 ∧ (if σ.1 69 (4 * d + (i : Int)) = -1 then -1 else σ.1 79 (σ.1 69 (4 * d + i))) + 1 < _
    rcases P0 i (by omega) (by omega) with w | ⟨w1, w2, w3⟩
    · rw [if_pos w]; omega
    · have := hf _ w1 w2 w3
      rw [if_neg (by omega)]; omega
  have bB : ∀ i : Nat, i < 4 → 0 ≤ b i ∧ b i < ((40 + 1 : Nat) : Int) := by
    intro i hi
    show 0 ≤ σ.1 69 (4 * (30 + e) + (i : Int)) + 1 ∧ σ.1 69 (4 * (30 + e) + (i : Int)) + 1 < _
    rcases P1 i (by omega) (by omega) with w | ⟨w1, w2, w3⟩ <;> omega
  -- counts told by the numbers
  have F2 : ∀ g c : Int, pO σ (30 + e) g c = sz (fun k => tv (gB σ (4 * d + k) = g ∧ b k = c + 1)) 4 := by
    intro g c
    unfold pO
    apply sz_congr
    intro k hk
    rw [G k (by omega) (by omega)]
    exact tv_congr (and_congr_right (fun _ => ⟨fun w => by show _ + 1 = _; rw [w], fun w => by have w' : σ.1 69 (4 * (30 + e) + (k : Int)) + 1 = c + 1 := w; omega⟩))
  have F1 : ∀ g c : Int, (c = -1 ∨ (0 ≤ c ∧ c < N ∧ uS σ 0 c)) → pO σ d g c = sz (fun k => tv (gB σ (4 * d + k) = g ∧ a k = (if c = -1 then -1 else σ.1 79 c) + 1)) 4 := by
    intro g c hc
    unfold pO
    apply sz_congr
    intro k hk
    refine tv_congr (and_congr_right (fun _ => ⟨fun w => by show (if σ.1 69 (4 * d + (k : Int)) = -1 then -1 else σ.1 79 (σ.1 69 (4 * d + k))) + 1 = _; rw [w], fun w => ?_⟩))
    have w' : (if σ.1 69 (4 * d + (k : Int)) = -1 then -1 else σ.1 79 (σ.1 69 (4 * d + k))) + 1 = (if c = -1 then -1 else σ.1 79 c) + 1 := w
    rcases P0 k (by omega) (by omega) with p | ⟨p1, p2, p3⟩ <;> rcases hc with q | ⟨q1, q2, q3⟩
    · omega
    · have := hf c q1 q2 q3
      rw [if_pos p, if_neg (by omega)] at w'
      omega
    · have := hf _ p1 p2 p3
      rw [if_neg (by omega), if_pos q] at w'
      omega
    · have f1 := hf c q1 q2 q3
      have f2 := hf _ p1 p2 p3
      rw [if_neg (by omega), if_neg (by omega)] at w'
      have : σ.1 79 (σ.1 69 (4 * d + (k : Int))) = σ.1 79 c := by omega
      rw [← f2.2.2, this, f1.2.2]
  constructor
  · intro h n n1 n2 un g hg4
    rw [F1 g n (Or.inr ⟨n1, n2, un⟩), F2, if_neg (by omega)]
    refine tot_eq2 (Q1 := fun k => gB σ (4 * d + k) = g) (Q2 := fun k => gB σ (4 * d + k) = g) (f1 := a) (f2 := b) (n := 4) (B := 40 + 1) (fun i hi _ => aB i hi) (fun i hi _ => bB i hi) rfl (fun i hi q => ?_) (σ.1 79 n + 1)
    have q' : gB σ (4 * d + (i : Int)) = g := q
    have := h i (by omega) (by omega)
    rw [q'] at this
    rw [F1 g _ (by rcases P0 i (by omega) (by omega) with p | p; exact Or.inl p; exact Or.inr p), F2] at this
    exact this
  · intro h k k1 k2
    have A : ∀ g : Int, 0 ≤ g → g < 4 → ∀ c : Int, 1 ≤ c → c < ((40 + 1 : Nat) : Int) → sz (fun z => tv (gB σ (4 * d + z) = g ∧ a z = c)) 4 = sz (fun z => tv (gB σ (4 * d + z) = g ∧ b z = c)) 4 := by
      intro g g1 g2 c c1 c2
      rcases Classical.em (∃ n : Int, 0 ≤ n ∧ n < N ∧ uS σ 0 n ∧ σ.1 79 n = c - 1) with ⟨n, n1, n2, n3, n4⟩ | w
      · have := h n n1 n2 n3 g.toNat (by omega)
        rw [Int.toNat_of_nonneg g1, F1 g n (Or.inr ⟨n1, n2, n3⟩), F2, if_neg (by omega), n4, show c - 1 + 1 = c by omega] at this
        exact this
      · have z1 : sz (fun z => tv (gB σ (4 * d + z) = g ∧ a z = c)) 4 = 0 := sz_z (fun i hi => tvz (fun z => by
          have z' : (if σ.1 69 (4 * d + (i : Int)) = -1 then -1 else σ.1 79 (σ.1 69 (4 * d + i))) + 1 = c := z.2
          rcases P0 i (by omega) (by omega) with p | ⟨p1, p2, p3⟩
          · rw [if_pos p] at z'; omega
          · rw [if_neg (by omega)] at z'
            exact w ⟨_, p1, p2, p3, by omega⟩))
        have z2 : sz (fun z => tv (gB σ (4 * d + z) = g ∧ b z = c)) 4 = 0 := sz_z (fun i hi => tvz (fun z => by
          have z' : σ.1 69 (4 * (30 + e) + (i : Int)) + 1 = c := z.2
          rcases P1 i (by omega) (by omega) with p | ⟨p1, p2, p3⟩
          · omega
          · obtain ⟨n, n1, n2, n3, n4⟩ := hg _ p1 p2 p3
            exact w ⟨n, n1, n2, n3, by omega⟩))
        rw [z1, z2]
    have gk := gB_ok hw d1 (show d < 60 by omega) k k1 k2
    rw [F1 _ _ (P0 k k1 k2), F2]
    by_cases w : σ.1 69 (4 * d + k) = -1
    · rw [if_pos w]
      exact tot_0 (Q := fun z => gB σ (4 * d + z) = gB σ (4 * d + k)) (B := 40) (fun i hi _ => aB i hi) (fun i hi _ => bB i hi) (A _ gk.1 gk.2)
    · rcases P0 k k1 k2 with p | ⟨p1, p2, p3⟩
      · exact absurd p w
      · have := hf _ p1 p2 p3
        rw [if_neg w]
        exact A _ gk.1 gk.2 _ (by omega) (by omega)
end Te
