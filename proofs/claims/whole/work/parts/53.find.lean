-- Search: find
def prtd (β : ga_S) (y : Int) : Prop := y % 40 < β.1 65 (y / 40) ∧ β.1 64 y ≠ -1
/-- every name of a side is one of the other's; a side has no name twice; both use as many nets -/
def nmd (β : ga_S) : Prop := (∀ x : Int, 0 ≤ x → x < 40 → prtd β x → ∃ y : Int, 0 ≤ y ∧ y < 40 ∧ prtd β (40 + y) ∧ β.1 64 (40 + y) = β.1 64 x) ∧ (∀ y : Int, 0 ≤ y → y < 40 → prtd β (40 + y) → ∃ x : Int, 0 ≤ x ∧ x < 40 ∧ prtd β x ∧ β.1 64 x = β.1 64 (40 + y))
def unq (β : ga_S) : Prop := (∀ x y : Int, 0 ≤ x → x < 40 → 0 ≤ y → y < 40 → prtd β x → prtd β y → β.1 64 x = β.1 64 y → x = y) ∧ (∀ x y : Int, 0 ≤ x → x < 40 → 0 ≤ y → y < 40 → prtd β (40 + x) → prtd β (40 + y) → β.1 64 (40 + x) = β.1 64 (40 + y) → x = y)
def utot (β : ga_S) : Prop := sz (fun n => tv (bU β n)) 40 = sz (fun n => tv (bU β (40 + n))) 40
theorem prtd_U {β : ga_S} {y : Int} : bU β y ∧ β.1 64 y ≠ -1 ↔ prtd β y := ⟨fun h => ⟨h.1.1, h.2⟩, fun h => ⟨⟨h.1, Or.inl h.2⟩, h.2⟩⟩
theorem nmd_sz {β : ga_S} (hn : nmd β) (hu : unq β) (F : Int → Prop) : sz (fun n => tv (prtd β n ∧ F (β.1 64 n))) 40 = sz (fun n => tv (prtd β (40 + n) ∧ F (β.1 64 (40 + n)))) 40 := by
  have a : sz (fun n => tv (prtd β n ∧ F (β.1 64 n))) 40 ≤ sz (fun n => tv (prtd β (40 + n) ∧ F (β.1 64 (40 + n)))) 40 := by
    refine sz_img (m := fun i => lstF (fun n => prtd β n ∧ β.1 64 n = β.1 64 (40 + i)) 40) (fun j j1 j2 j3 => ?_)
    obtain ⟨y, y1, y2, y3, y4⟩ := hn.1 j j1 j2 j3.1
    refine ⟨y, y1, y2, ⟨y3, by rw [y4]; exact j3.2⟩, ?_⟩
    rcases lstF_is (fun n => prtd β n ∧ β.1 64 n = β.1 64 (40 + y)) 40 with ⟨q1, q2⟩ | ⟨q1, q2, q3, q4⟩
    · exact absurd ⟨j3.1, y4.symm⟩ (q2 j j1 j2)
    · exact hu.1 _ _ q1 q2 j1 j2 q3.1 j3.1 (q3.2.trans y4)
  have b : sz (fun n => tv (prtd β (40 + n) ∧ F (β.1 64 (40 + n)))) 40 ≤ sz (fun n => tv (prtd β n ∧ F (β.1 64 n))) 40 := by
    refine sz_img (m := fun i => lstF (fun n => prtd β (40 + n) ∧ β.1 64 (40 + n) = β.1 64 i) 40) (fun j j1 j2 j3 => ?_)
    obtain ⟨y, y1, y2, y3, y4⟩ := hn.2 j j1 j2 j3.1
    refine ⟨y, y1, y2, ⟨y3, by rw [y4]; exact j3.2⟩, ?_⟩
    rcases lstF_is (fun n => prtd β (40 + n) ∧ β.1 64 (40 + n) = β.1 64 y) 40 with ⟨q1, q2⟩ | ⟨q1, q2, q3, q4⟩
    · exact absurd ⟨j3.1, y4.symm⟩ (q2 j j1 j2)
    · exact hu.2 _ _ q1 q2 j1 j2 q3.1 j3.1 (q3.2.trans y4)
  omega
theorem EV_0 {β : ga_S} (hn : nmd β) (hu : unq β) (ht : utot β) (ch : Int → Int) : EV β ch 0 := by
  intro x x1 x2 ux
  have e : ∀ y, SE β ch 0 x y ↔ β.1 64 x = β.1 64 y := fun y => ⟨fun z => z.1, fun z => ⟨z, fun i a b => by omega⟩⟩
  rw [sz_congr (f := fun n => tv (bU β n ∧ SE β ch 0 x n)) (g := fun n => tv (bU β n ∧ β.1 64 x = β.1 64 n)) (fun n _ => tv_congr (and_congr_right (fun _ => e n))), sz_congr (f := fun n => tv (bU β (40 + n) ∧ SE β ch 0 x (40 + n))) (g := fun n => tv (bU β (40 + n) ∧ β.1 64 x = β.1 64 (40 + n))) (fun n _ => tv_congr (and_congr_right (fun _ => e (40 + n))))]
  by_cases q : β.1 64 x = -1
  · have s1 := sz_split (P := fun n => bU β n) (T := fun n => β.1 64 n ≠ -1) 40
    have s2 := sz_split (P := fun n => bU β (40 + n)) (T := fun n => β.1 64 (40 + n) ≠ -1) 40
    have k := nmd_sz hn hu (fun _ => True)
    rw [sz_congr (g := fun n => tv (bU β n ∧ β.1 64 n ≠ -1)) (fun n _ => tv_congr ⟨fun z => prtd_U.mpr z.1, fun z => ⟨prtd_U.mp z, trivial⟩⟩), sz_congr (f := fun n => tv (prtd β (40 + n) ∧ True)) (g := fun n => tv (bU β (40 + n) ∧ β.1 64 (40 + n) ≠ -1)) (fun n _ => tv_congr ⟨fun z => prtd_U.mpr z.1, fun z => ⟨prtd_U.mp z, trivial⟩⟩)] at k
    unfold utot at ht
    rw [sz_congr (g := fun n => tv (bU β n ∧ ¬ β.1 64 n ≠ -1)) (fun n _ => tv_congr (and_congr_right (fun _ => by rw [q]; exact ⟨fun z w => w z.symm, fun z => (Classical.not_not.mp z).symm⟩))), sz_congr (f := fun n => tv (bU β (40 + n) ∧ β.1 64 x = β.1 64 (40 + n))) (g := fun n => tv (bU β (40 + n) ∧ ¬ β.1 64 (40 + n) ≠ -1)) (fun n _ => tv_congr (and_congr_right (fun _ => by rw [q]; exact ⟨fun z w => w z.symm, fun z => (Classical.not_not.mp z).symm⟩)))]
    omega
  · have k := nmd_sz hn hu (fun w => β.1 64 x = w)
    rw [sz_congr (g := fun n => tv (bU β n ∧ β.1 64 x = β.1 64 n)) (fun n _ => tv_congr ⟨fun z => ⟨(prtd_U.mpr z.1).1, z.2⟩, fun z => ⟨prtd_U.mp ⟨z.1, by rw [← z.2]; exact q⟩, z.2⟩⟩), sz_congr (f := fun n => tv (prtd β (40 + n) ∧ β.1 64 x = β.1 64 (40 + n))) (g := fun n => tv (bU β (40 + n) ∧ β.1 64 x = β.1 64 (40 + n))) (fun n _ => tv_congr ⟨fun z => ⟨(prtd_U.mpr z.1).1, z.2⟩, fun z => ⟨prtd_U.mp ⟨z.1, by rw [← z.2]; exact q⟩, z.2⟩⟩)] at k
    exact k
theorem SR_0 {β : ga_S} {port1 port2 s1 s2 : Int → Int} {N M : Nat} (hN : β.1 65 0 = N) (hN2 : N ≤ 40) (hM : β.1 65 1 = M) (hM2 : M ≤ 40) (h1 : ∀ n : Int, 0 ≤ n → n < N → port1 n = β.1 64 (40 * 0 + n)) (h2 : ∀ n : Int, 0 ≤ n → n < M → port2 n = β.1 64 (40 * 1 + n)) (hn : nmd β) (g1 : ∀ n : Int, 0 ≤ n → n < N → s1 n = spF port1 N (port1 n)) (g2 : ∀ n : Int, 0 ≤ n → n < M → s2 n = spF port1 N (port2 n)) (ch : Int → Int) : SR β ch 0 s1 s2 := by
  have V : ∀ x : Int, 0 ≤ x → x < 80 → bU β x → sT s1 s2 x = spF port1 N (β.1 64 x) ∧ (β.1 64 x ≠ -1 → ∃ n : Int, 0 ≤ n ∧ n < N ∧ port1 n = β.1 64 x) := by
    intro x x1 x2 ux
    have u := ux.1
    unfold sT
    by_cases q : x < 40
    · rw [show x % 40 = x by omega, show x / 40 = 0 by omega, hN] at u
      have := h1 x x1 u
      rw [show 40 * 0 + x = x by omega] at this
      rw [if_pos q, g1 x x1 u, this]
      exact ⟨rfl, fun _ => ⟨x, x1, u, this⟩⟩
    · rw [show x % 40 = x - 40 by omega, show x / 40 = 1 by omega, hM] at u
      have := h2 (x - 40) (by omega) u
      rw [show 40 * 1 + (x - 40) = x by omega] at this
      rw [if_neg q, g2 (x - 40) (by omega) u, this]
      refine ⟨rfl, fun h => ?_⟩
      obtain ⟨y, y1, y2, y3, y4⟩ := hn.2 (x - 40) (by omega) (by omega) (by rw [show 40 + (x - 40) = x by omega]; exact prtd_U.mp ⟨ux, h⟩)
      have y5 := y3.1
      rw [show y % 40 = y by omega, show y / 40 = 0 by omega, hN] at y5
      have := h1 y y1 y5
      rw [show 40 * 0 + y = y by omega] at this
      exact ⟨y, y1, y5, by rw [this, y4, show 40 + (x - 40) = x by omega]⟩
  have W : ∀ x : Int, 0 ≤ x → x < 80 → bU β x → (β.1 64 x = -1 ∧ sT s1 s2 x = 0) ∨ (β.1 64 x ≠ -1 ∧ 1 ≤ sT s1 s2 x ∧ sT s1 s2 x ≤ N ∧ port1 (sT s1 s2 x - 1) = β.1 64 x) := by
    intro x x1 x2 ux
    obtain ⟨v1, v2⟩ := V x x1 x2 ux
    by_cases q : β.1 64 x = -1
    · exact Or.inl ⟨q, by rw [v1, q]; rfl⟩
    · right
      rw [v1]
      obtain ⟨n, n1, n2, n3⟩ := v2 q
      rcases spF_is (port1 := port1) (N := N) q with ⟨a, b⟩ | ⟨a, b, c⟩
      · exact absurd n3 (b n n1 n2)
      · exact ⟨q, a, b, c⟩
  refine ⟨fun x y x1 x2 y1 y2 ux uy => ?_, fun x x1 x2 ux => ?_⟩
  · have e : SE β ch 0 x y ↔ β.1 64 x = β.1 64 y := ⟨fun z => z.1, fun z => ⟨z, fun i a b => by omega⟩⟩
    rw [e]
    constructor
    · intro h
      rcases W x x1 x2 ux with ⟨a, b⟩ | ⟨a, b, c, d⟩ <;> rcases W y y1 y2 uy with ⟨a', b'⟩ | ⟨a', b', c', d'⟩
      · rw [a, a']
      · omega
      · omega
      · rw [← d, ← d', h]
    · intro h
      rw [(V x x1 x2 ux).1, (V y y1 y2 uy).1, h]
  · rcases W x x1 x2 ux with ⟨a, b⟩ | ⟨a, b, c, d⟩ <;> omega
/-- the sorts before each pair, as the rows put them back -/
def hst (β : ga_S) (ch cc cf cs sb : Int → Int) : Nat → (Int → Int) → (Int → Int) → Prop
  | 0, s1, s2 => SR β ch 0 s1 s2 ∧ EV β ch 0
  | p + 1, s1, s2 => (SR β ch ((p + 1 : Nat) : Int) s1 s2 ∧ EV β ch ((p + 1 : Nat) : Int)) ∧ ∃ c : Nat, cc p = c ∧ c ≤ 4 ∧ (∀ i : Int, 0 ≤ i → i < c → 0 ≤ cf ((p : Int) * 4 + i) ∧ cf ((p : Int) * 4 + i) < 40 ∧ 0 ≤ cs ((p : Int) * 4 + i) ∧ cs ((p : Int) * 4 + i) < 40) ∧ hst β ch cc cf cs sb p (rstF cf sb ((p : Int) * 4) c s1) (rstF cs sb ((p : Int) * 4) c s2)
theorem hst_top {β : ga_S} {ch cc cf cs sb : Int → Int} : ∀ {p : Nat} {s1 s2 : Int → Int}, hst β ch cc cf cs sb p s1 s2 → SR β ch p s1 s2 ∧ EV β ch p
  | 0, _, _, h => h
  | _ + 1, _, _, h => h.1
theorem rstF_cg {n b n2 b2 : Int → Int} {p : Int} {s : Int → Int} : ∀ {c : Nat}, (∀ i : Int, 0 ≤ i → i < c → n (p + i) = n2 (p + i) ∧ b (p + i) = b2 (p + i)) → rstF n b p c s = rstF n2 b2 p c s
  | 0, _ => rfl
  | c + 1, h => by
    have := h c (by omega) (by omega)
    show ga_up (rstF n b p c s) (n (p + c)) (b (p + c)) = ga_up (rstF n2 b2 p c s) (n2 (p + c)) (b2 (p + c))
    rw [rstF_cg (c := c) (fun i a b => h i a (by omega)), this.1, this.2]
theorem hst_cg {β : ga_S} {ch cc cf cs sb ch' cc' cf' cs' sb' : Int → Int} : ∀ {p : Nat} {s1 s2 : Int → Int}, (∀ i : Int, 0 ≤ i → i < p → ch i = ch' i ∧ cc i = cc' i) → (∀ j : Int, j < (p : Int) * 4 → cf j = cf' j ∧ cs j = cs' j ∧ sb j = sb' j) → hst β ch cc cf cs sb p s1 s2 → hst β ch' cc' cf' cs' sb' p s1 s2
  | 0, _, _, h1, _, h => ⟨SR_cg (fun i a b => (h1 i a b).1) h.1, EV_cg (fun i a b => (h1 i a b).1) h.2⟩
  | p + 1, s1, s2, h1, h2, h => by
    obtain ⟨⟨a, b⟩, c, c1, c2, c3, c4⟩ := h
    refine ⟨⟨SR_cg (fun i a b => (h1 i a b).1) a, EV_cg (fun i a b => (h1 i a b).1) b⟩, c, ?_, c2, fun i i1 i2 => ?_, ?_⟩
    · rw [← (h1 p (by omega) (by omega)).2]; exact c1
    · have := h2 ((p : Int) * 4 + i) (by omega)
      rw [← this.1, ← this.2.1]
      exact c3 i i1 i2
    · rw [← rstF_cg (n := cf) (b := sb) (n2 := cf') (b2 := sb') (fun i i1 i2 => by have := h2 ((p : Int) * 4 + i) (by omega); exact ⟨this.1, this.2.2⟩), ← rstF_cg (n := cs) (b := sb) (n2 := cs') (b2 := sb') (fun i i1 i2 => by have := h2 ((p : Int) * 4 + i) (by omega); exact ⟨this.2.1, this.2.2⟩)]
      exact hst_cg (fun i a b => h1 i a (by omega)) (fun j hj => h2 j (by omega)) c4
def cand (β : ga_S) (R : Int → Int) (d : Int) (ch : Int → Int) (e : Int) : Prop := bL β (30 + e) ∧ (∀ i : Int, 0 ≤ i → i < d → ch i ≠ e) ∧ R (30 + e) = R (ln β d)
def isC (β : ga_S) (R : Int → Int) (d : Int) (ch : Int → Int) (e : Int) : Prop := 0 ≤ e ∧ e < 30 ∧ ch d < e ∧ cand β R d ch e ∧ ∀ e2 : Int, 0 ≤ e2 → e2 < e → ch d < e2 → ¬ cand β R d ch e2
def okS (β : ga_S) (d : Int) (ch : Int → Int) : Prop := agP β (ln β d) (30 + ch d) ∧ EV β ch (d + 1)
/-- n steps of the search, to answer r -/
def Srch (β : ga_S) (R : Int → Int) (lim L : Int) : Nat → Int → (Int → Int) → Int → Int → (Int → Int) → Prop
  | 0, d, ch, t, r, c2 => (d < 0 ∧ r = 0) ∨ (0 ≤ d ∧ L ≤ d ∧ r = 1 ∧ c2 = ch) ∨ (0 ≤ d ∧ d < L ∧ (∃ e, isC β R d ch e) ∧ lim ≤ t ∧ r = 2)
  | n + 1, d, ch, t, r, c2 => 0 ≤ d ∧ d < L ∧ (((∀ e, ¬ isC β R d ch e) ∧ Srch β R lim L n (d - 1) (ga_up ch d (-1)) t r c2) ∨ (∃ e, isC β R d ch e ∧ t < lim ∧ ((okS β d (ga_up ch d e) ∧ Srch β R lim L n (d + 1) (ga_up ch d e) (t + 1) r c2) ∨ (¬ okS β d (ga_up ch d e) ∧ Srch β R lim L n d (ga_up ch d e) (t + 1) r c2))))
theorem isC_one {β : ga_S} {R : Int → Int} {d : Int} {ch : Int → Int} {e e2 : Int} (h : isC β R d ch e) (g : isC β R d ch e2) : e = e2 := by
  obtain ⟨h1, h2, h3, h4, h5⟩ := h
  obtain ⟨g1, g2, g3, g4, g5⟩ := g
  rcases Int.lt_or_le e e2 with q | q
  · exact absurd h4 (g5 e h1 q h3)
  · rcases Int.lt_or_le e2 e with q2 | q2
    · exact absurd g4 (h5 e2 g1 q2 g3)
    · omega
theorem Srch_n {β : ga_S} {R : Int → Int} {lim L : Int} : ∀ {n : Nat} {d : Int} {ch : Int → Int} {t r : Int} {c2 : Int → Int}, Srch β R lim L n d ch t r c2 → -1 ≤ d → t ≤ lim → (n : Int) ≤ 2 * (lim - t) + d + 1
  | 0, d, ch, t, r, c2, h, hd, ht => by omega
  | n + 1, d, ch, t, r, c2, h, hd, ht => by
    obtain ⟨h1, h2, h3⟩ := h
    rcases h3 with ⟨_, h4⟩ | ⟨e, _, h4, h5⟩
    · have := Srch_n h4 (by omega) ht; omega
    · rcases h5 with ⟨_, h6⟩ | ⟨_, h6⟩
      · have := Srch_n h6 (by omega) (by omega); omega
      · have := Srch_n h6 (by omega) (by omega); omega
theorem isC_ex (β : ga_S) (R : Int → Int) (d : Int) (ch : Int → Int) : (∃ e, isC β R d ch e) ∨ ∀ e : Int, 0 ≤ e → e < 30 → ch d < e → ¬ cand β R d ch e := by
  rcases lstF_is (fun e => ch d < e ∧ cand β R d ch e) 30 with ⟨q1, q2⟩ | ⟨q1, q2, q3, q4⟩
  · exact Or.inr (fun e a b c z => q2 e a b ⟨c, z⟩)
  · exact Or.inl ⟨_, q1, q2, q3.1, q3.2, fun e2 a b c z => q4 e2 a b ⟨c, z⟩⟩
theorem Srch_ex (β : ga_S) (R : Int → Int) (lim L : Int) (k : Nat) : ∀ (d : Int) (ch : Int → Int) (t : Int), -1 ≤ d → t ≤ lim → 2 * (lim - t) + d + 1 ≤ k → ∃ n r c2, Srch β R lim L n d ch t r c2 := by
  induction k with
  | zero =>
    intro d ch t hd ht hk
    exact ⟨0, 0, ch, Or.inl ⟨by omega, rfl⟩⟩
  | succ k ih =>
    intro d ch t hd ht hk
    by_cases q : d < 0
    · exact ⟨0, 0, ch, Or.inl ⟨q, rfl⟩⟩
    · by_cases q2 : L ≤ d
      · exact ⟨0, 1, ch, Or.inr (Or.inl ⟨by omega, q2, rfl, rfl⟩)⟩
      · rcases isC_ex β R d ch with ⟨e, he⟩ | h
        · by_cases q3 : lim ≤ t
          · exact ⟨0, 2, ch, Or.inr (Or.inr ⟨by omega, by omega, ⟨e, he⟩, q3, rfl⟩)⟩
          · by_cases ok : okS β d (ga_up ch d e)
            · obtain ⟨n, r, c2, hs⟩ := ih (d + 1) (ga_up ch d e) (t + 1) (by omega) (by omega) (by omega)
              exact ⟨n + 1, r, c2, by omega, by omega, Or.inr ⟨e, he, by omega, Or.inl ⟨ok, hs⟩⟩⟩
            · obtain ⟨n, r, c2, hs⟩ := ih d (ga_up ch d e) (t + 1) (by omega) (by omega) (by omega)
              exact ⟨n + 1, r, c2, by omega, by omega, Or.inr ⟨e, he, by omega, Or.inr ⟨ok, hs⟩⟩⟩
        · obtain ⟨n, r, c2, hs⟩ := ih (d - 1) (ga_up ch d (-1)) t (by omega) ht (by omega)
          exact ⟨n + 1, r, c2, by omega, by omega, Or.inl ⟨fun e z => h e z.1 z.2.1 z.2.2.1 z.2.2.2.1, hs⟩⟩
