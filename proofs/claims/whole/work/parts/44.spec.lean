-- the rounds, told without the machine
noncomputable def lstF (p : Int → Prop) : Nat → Int
  | 0 => -1
  | n + 1 => tif (lstF p n ≠ -1) (lstF p n) (tif (p n) (n : Int) (-1))
theorem lstF_s (p : Int → Prop) (n : Nat) : lstF p (n + 1) = tif (lstF p n ≠ -1) (lstF p n) (tif (p n) (n : Int) (-1)) := rfl
theorem lstF_is (p : Int → Prop) : ∀ n : Nat, (lstF p n = -1 ∧ ∀ i : Int, 0 ≤ i → i < n → ¬ p i) ∨ (0 ≤ lstF p n ∧ lstF p n < n ∧ p (lstF p n) ∧ ∀ i : Int, 0 ≤ i → i < lstF p n → ¬ p i)
  | 0 => Or.inl ⟨rfl, fun i h1 h2 => absurd h2 (by omega)⟩
  | n + 1 => by
    rw [lstF_s]
    rcases lstF_is p n with ⟨q1, q2⟩ | ⟨q1, q2, q3, q4⟩
    · rw [tif0 (fun z => z q1)]
      by_cases h : p n
      · rw [tif1 h]
        exact Or.inr ⟨by omega, by omega, h, fun i h1 h2 => q2 i h1 h2⟩
      · rw [tif0 h]
        refine Or.inl ⟨rfl, fun i h1 h2 => ?_⟩
        rcases Int.lt_or_le i n with z | z
        · exact q2 i h1 z
        · rw [show i = n by omega]; exact h
    · rw [tif1 (by omega)]
      exact Or.inr ⟨q1, by omega, q3, q4⟩
theorem lstF_one {p : Int → Prop} {n : Nat} {x : Int} (h0 : 0 ≤ x) (h1 : x < n) (h2 : p x) (h3 : ∀ i : Int, 0 ≤ i → i < x → ¬ p i) : lstF p n = x := by
  rcases lstF_is p n with ⟨q1, q2⟩ | ⟨q1, q2, q3, q4⟩
  · exact absurd h2 (q2 x h0 h1)
  · rcases Int.lt_or_le (lstF p n) x with z | z
    · exact absurd q3 (h3 _ q1 z)
    · rcases Int.lt_or_le x (lstF p n) with z2 | z2
      · exact absurd h2 (q4 x h0 z2)
      · omega
/-- the least of L like x -/
noncomputable def lst (L : Int → Prop) (E : Int → Int → Prop) (T : Nat) (x : Int) : Int := lstF (fun u => L u ∧ E x u) T
theorem lst_eq {L : Int → Prop} {E : Int → Int → Prop} {T : Nat} (er : ∀ x, E x x) (es : ∀ x u, E x u → E u x) (et : ∀ x u v, E x u → E u v → E x v) {x u : Int} (x1 : 0 ≤ x) (x2 : x < T) (u1 : 0 ≤ u) (u2 : u < T) (lx : L x) (lu : L u) : lst L E T x = lst L E T u ↔ E x u := by
  constructor
  · intro h
    unfold lst at h
    rcases lstF_is (fun w => L w ∧ E x w) T with ⟨q1, q2⟩ | ⟨q1, q2, q3, q4⟩
    · exact absurd ⟨lx, er x⟩ (q2 x x1 x2)
    · rcases lstF_is (fun w => L w ∧ E u w) T with ⟨g1, g2⟩ | ⟨g1, g2, g3, g4⟩
      · exact absurd ⟨lu, er u⟩ (g2 u u1 u2)
      · rw [← h] at g3
        exact et _ _ _ q3.2 (es _ _ g3.2)
  · intro h
    unfold lst
    have : (fun w => L w ∧ E x w) = fun w => L w ∧ E u w := by
      funext w
      exact propext ⟨fun z => ⟨z.1, et _ _ _ (es _ _ h) z.2⟩, fun z => ⟨z.1, et _ _ _ h z.2⟩⟩
    rw [this]
theorem lst_in {L : Int → Prop} {E : Int → Int → Prop} {T : Nat} (er : ∀ x, E x x) {x : Int} (x1 : 0 ≤ x) (x2 : x < T) (lx : L x) : 0 ≤ lst L E T x := by
  unfold lst
  rcases lstF_is (fun w => L w ∧ E x w) T with ⟨q1, q2⟩ | ⟨q1, q2, q3, q4⟩
  · exact absurd ⟨lx, er x⟩ (q2 x x1 x2)
  · exact q1
def relD (β : ga_S) (C RN : Int → Int) (x u : Int) : Prop := C x = C u ∧ lkD β RN x u
def relN (β : ga_S) (C RD : Int → Int) (x u : Int) : Prop := C x = C u ∧ lkN β RD x u
theorem relD_r (β : ga_S) (C RN : Int → Int) (x : Int) : relD β C RN x x := ⟨rfl, fun _ => rfl⟩
theorem relD_s (β : ga_S) (C RN : Int → Int) (x u : Int) (h : relD β C RN x u) : relD β C RN u x := ⟨h.1.symm, fun c => (h.2 c).symm⟩
theorem relD_t (β : ga_S) (C RN : Int → Int) (x u v : Int) (h : relD β C RN x u) (g : relD β C RN u v) : relD β C RN x v := ⟨h.1.trans g.1, fun c => (h.2 c).trans (g.2 c)⟩
theorem relN_r (β : ga_S) (C RN : Int → Int) (x : Int) : relN β C RN x x := ⟨rfl, rfl, fun _ => rfl⟩
theorem relN_s (β : ga_S) (C RN : Int → Int) (x u : Int) (h : relN β C RN x u) : relN β C RN u x := ⟨h.1.symm, h.2.1.symm, fun c => (h.2.2 c).symm⟩
theorem relN_t (β : ga_S) (C RN : Int → Int) (x u v : Int) (h : relN β C RN x u) (g : relN β C RN u v) : relN β C RN x v := ⟨h.1.trans g.1, h.2.1.trans g.2.1, fun c => (h.2.2 c).trans (g.2.2 c)⟩
noncomputable def RDN (β : ga_S) : Nat → (Int → Int) × (Int → Int)
  | 0 => (β.1 66, fun y => β.1 64 y + 1)
  | k + 1 => (lst (bL β) (relD β (RDN β k).1 (RDN β k).2) 60, lst (bU β) (relN β (RDN β k).2 (RDN β k).1) 80)
theorem RDN_s1 (β : ga_S) (k : Nat) : (RDN β (k + 1)).1 = lst (bL β) (relD β (RDN β k).1 (RDN β k).2) 60 := rfl
theorem RDN_s2 (β : ga_S) (k : Nat) : (RDN β (k + 1)).2 = lst (bU β) (relN β (RDN β k).2 (RDN β k).1) 80 := rfl
theorem RDN_D (β : ga_S) (k : Nat) (x u : Int) (x1 : 0 ≤ x) (x2 : x < 60) (u1 : 0 ≤ u) (u2 : u < 60) (lx : bL β x) (lu : bL β u) : (RDN β (k + 1)).1 x = (RDN β (k + 1)).1 u ↔ (RDN β k).1 x = (RDN β k).1 u ∧ lkD β (RDN β k).2 x u := by
  rw [RDN_s1]
  generalize (RDN β k).1 = C
  generalize (RDN β k).2 = F
  exact lst_eq (E := relD β C F) (T := 60) (relD_r β C F) (relD_s β C F) (relD_t β C F) x1 x2 u1 u2 lx lu
theorem RDN_N (β : ga_S) (k : Nat) (x u : Int) (x1 : 0 ≤ x) (x2 : x < 80) (u1 : 0 ≤ u) (u2 : u < 80) (lx : bU β x) (lu : bU β u) : (RDN β (k + 1)).2 x = (RDN β (k + 1)).2 u ↔ (RDN β k).2 x = (RDN β k).2 u ∧ lkN β (RDN β k).1 x u := by
  rw [RDN_s2]
  generalize (RDN β k).2 = C
  generalize (RDN β k).1 = F
  exact lst_eq (E := relN β C F) (T := 80) (relN_r β C F) (relN_s β C F) (relN_t β C F) x1 x2 u1 u2 lx lu
def prtB (β : ga_S) : Prop := ∀ y : Int, 0 ≤ y → y < 80 → bU β y → -1 ≤ β.1 64 y
theorem RDN_0 {β : ga_S} (hp : prtB β) : ∀ k : Nat, ∀ y : Int, 0 ≤ y → y < 80 → bU β y → 0 ≤ (RDN β k).2 y
  | 0, y, h1, h2, h3 => by
    have := hp y h1 h2 h3
    show 0 ≤ β.1 64 y + 1
    omega
  | k + 1, y, h1, h2, h3 => by
    rw [RDN_s2]
    exact lst_in (E := relN β (RDN β k).2 (RDN β k).1) (T := 80) (relN_r _ _ _) h1 h2 h3
theorem nF_b {L : Int → Prop} {R : Int → Int} {T : Nat} : 0 ≤ nF L R T ∧ nF L R T ≤ T := sz_b (fun _ => tv_le)
theorem sz_mono {f g : Int → Int} : ∀ {n : Nat}, (∀ i : Nat, i < n → f i ≤ g i) → sz f n ≤ sz g n
  | 0, _ => Int.le_refl _
  | n + 1, h => by have := sz_mono (n := n) (fun i hi => h i (by omega)); have := h n (by omega); rw [sz_s, sz_s]; omega
theorem sz_same {f g : Int → Int} : ∀ {n : Nat}, (∀ i : Nat, i < n → f i ≤ g i) → sz f n = sz g n → ∀ i : Nat, i < n → f i = g i
  | 0, _, _, i, hi => absurd hi (Nat.not_lt_zero _)
  | n + 1, h, e, i, hi => by
    have a := sz_mono (n := n) (fun i hi => h i (by omega))
    have b := h n (by omega)
    rw [sz_s, sz_s] at e
    rcases Nat.lt_or_ge i n with q | q
    · exact sz_same (n := n) (fun i hi => h i (by omega)) (by omega) i q
    · rw [show i = n by omega]; omega
theorem tv_mono {p q : Prop} (h : p → q) : tv p ≤ tv q := by
  by_cases z : p
  · rw [tv1 z, tv1 (h z)]; exact Int.le_refl _
  · rw [tvz z]; exact (tv_le (p := q)).1
theorem nF_le {L : Int → Prop} {R R2 : Int → Int} {T : Nat} (h : ∀ x u : Int, 0 ≤ x → x < T → 0 ≤ u → u < T → L x → L u → R2 x = R2 u → R x = R u) : nF L R T ≤ nF L R2 T :=
  sz_mono (fun i hi => tv_mono (fun z => ⟨z.1, fun u a b c d => z.2 u a b c (h u i a (by omega) (by omega) (by omega) c z.1 d)⟩))
/-- every member has a first one like it -/
theorem fst_of {L : Int → Prop} {R : Int → Int} : ∀ (n : Nat) (x : Int), 0 ≤ x → x < n → L x → ∃ a : Int, 0 ≤ a ∧ a ≤ x ∧ L a ∧ R a = R x ∧ ∀ u : Int, 0 ≤ u → u < a → L u → R u ≠ R a
  | 0, x, h1, h2, _ => absurd h2 (by omega)
  | n + 1, x, h1, h2, h3 => by
    by_cases q : ∃ u : Int, 0 ≤ u ∧ u < x ∧ L u ∧ R u = R x
    · obtain ⟨u, a, b, c, d⟩ := q
      obtain ⟨w, w1, w2, w3, w4, w5⟩ := fst_of (R := R) n u a (by omega) c
      exact ⟨w, w1, by omega, w3, w4.trans d, w5⟩
    · exact ⟨x, h1, Int.le_refl _, h3, rfl, fun u a b c d => q ⟨u, a, b, c, d⟩⟩
theorem nF_same {L : Int → Prop} {R R2 : Int → Int} {T : Nat} (h : ∀ x u : Int, 0 ≤ x → x < T → 0 ≤ u → u < T → L x → L u → R2 x = R2 u → R x = R u) (e : nF L R T = nF L R2 T) : nEq T L R2 R := by
  intro x u x1 x2 u1 u2 lx lu
  refine ⟨h x u x1 x2 u1 u2 lx lu, fun hR => ?_⟩
  obtain ⟨a, a1, a2, a3, a4, a5⟩ := fst_of (R := R2) T x x1 x2 lx
  obtain ⟨b, b1, b2, b3, b4, b5⟩ := fst_of (R := R2) T u u1 u2 lu
  have key : ∀ a : Int, 0 ≤ a → a < T → L a → (∀ u : Int, 0 ≤ u → u < a → L u → R2 u ≠ R2 a) → ∀ u : Int, 0 ≤ u → u < a → L u → R u ≠ R a := by
    intro a a1 a2 a3 a5
    have q := sz_same (f := fun x => tv (L x ∧ ∀ u : Int, 0 ≤ u → u < x → L u → R u ≠ R x)) (g := fun x => tv (L x ∧ ∀ u : Int, 0 ≤ u → u < x → L u → R2 u ≠ R2 x)) (n := T) (fun i hi => tv_mono (fun z => ⟨z.1, fun u a b c d => z.2 u a b c (h u i a (by omega) (by omega) (by omega) c z.1 d)⟩)) e a.toNat (by omega)
    rw [Int.toNat_of_nonneg a1] at q
    have q2 : tv (L a ∧ ∀ u : Int, 0 ≤ u → u < a → L u → R u ≠ R a) = 1 := q.trans (tv1 ⟨a3, a5⟩)
    by_cases q3 : L a ∧ ∀ u : Int, 0 ≤ u → u < a → L u → R u ≠ R a
    · exact q3.2
    · rw [tvz q3] at q2
      exact absurd q2 (by decide)
  have ha := key a a1 (by omega) a3 a5
  have hb := key b b1 (by omega) b3 b5
  have ra : R a = R x := h a x a1 (by omega) x1 x2 a3 lx a4
  have rb : R b = R u := h b u b1 (by omega) u1 u2 b3 lu b4
  have hab : a = b := by
    rcases Int.lt_or_le a b with z | z
    · exact absurd (by rw [ra, rb, hR]) (hb a a1 z a3)
    · rcases Int.lt_or_le b a with z2 | z2
      · exact absurd (by rw [ra, rb, hR]) (ha b b1 z2 b3)
      · omega
  rw [← a4, ← b4, hab]
theorem nF_0 {L : Int → Prop} {R R2 : Int → Int} {T : Nat} (h : nF L R T = 0) : nF L R2 T = 0 := by
  have no : ∀ x : Int, 0 ≤ x → x < T → ¬ L x := by
    intro x h1 h2 h3
    obtain ⟨a, a1, a2, a3, a4, a5⟩ := fst_of (R := R) T x h1 h2 h3
    have := sz_ge1 (P := fun x => L x ∧ ∀ u : Int, 0 ≤ u → u < x → L u → R u ≠ R x) (n := T) (i := a.toNat) (by omega) (by rw [Int.toNat_of_nonneg a1]; exact ⟨a3, a5⟩)
    unfold nF at h
    omega
  have : nF L R2 T = sz (fun _ => 0) T := sz_congr (fun i hi => tvz (fun z => no i (by omega) (by omega) z.1))
  rw [this]
  have key : ∀ n : Nat, sz (fun _ => 0) n = 0 := by
    intro n
    induction n with
    | zero => rfl
    | succ n ih => rw [sz_s, ih]; rfl
  exact key T
noncomputable def cntB (β : ga_S) (k : Nat) : Int := nF (bL β) (RDN β k).1 60 + nF (bU β) (RDN β k).2 80
theorem nF_D (β : ga_S) (k : Nat) : nF (bL β) (RDN β k).1 60 ≤ nF (bL β) (RDN β (k + 1)).1 60 := nF_le (fun x u a b c d e f g => ((RDN_D β k x u a (by omega) c (by omega) e f).mp g).1)
theorem nF_N (β : ga_S) (k : Nat) : nF (bU β) (RDN β k).2 80 ≤ nF (bU β) (RDN β (k + 1)).2 80 := nF_le (fun x u a b c d e f g => ((RDN_N β k x u a (by omega) c (by omega) e f).mp g).1)
/-- K rounds count -/
def isK (β : ga_S) (K : Nat) : Prop := (∀ k : Nat, k < K → cntB β k < cntB β (k + 1)) ∧ ¬ cntB β K < cntB β (K + 1)
theorem isK_lt {β : ga_S} {K : Nat} (h : isK β K) : K < 140 := by
  have up : ∀ k : Nat, k ≤ K → cntB β 0 + k ≤ cntB β k := by
    intro k
    induction k with
    | zero => intro _; omega
    | succ k ih => intro hk; have := ih (by omega); have := h.1 k (by omega); omega
  have b0 := nF_b (L := bL β) (R := (RDN β 0).1) (T := 60)
  have b1 := nF_b (L := bU β) (R := (RDN β 0).2) (T := 80)
  have c0 := nF_b (L := bL β) (R := (RDN β K).1) (T := 60)
  have c1 := nF_b (L := bU β) (R := (RDN β K).2) (T := 80)
  have u := up K (Nat.le_refl _)
  rcases Nat.lt_or_ge K 140 with q | q
  · exact q
  · unfold cntB at u
    have z0 : nF (bL β) (RDN β 0).1 60 = 0 := by omega
    have z1 : nF (bU β) (RDN β 0).2 80 = 0 := by omega
    have z2 := nF_0 (R2 := (RDN β K).1) z0
    have z3 := nF_0 (R2 := (RDN β K).2) z1
    omega
theorem isK_ex (β : ga_S) : ∃ K, isK β K := by
  have key : ∀ n : Nat, (∀ k : Nat, k < n → cntB β k < cntB β (k + 1)) ∨ ∃ K, isK β K := by
    intro n
    induction n with
    | zero => exact Or.inl (fun k hk => absurd hk (Nat.not_lt_zero _))
    | succ n ih =>
      rcases ih with h | h
      · by_cases q : cntB β n < cntB β (n + 1)
        · left
          intro k hk
          rcases Nat.lt_or_ge k n with z | z
          · exact h k z
          · rw [show k = n by omega]; exact q
        · exact Or.inr ⟨n, h, q⟩
      · exact Or.inr h
  rcases key 141 with h | h
  · exfalso
    have up : ∀ k : Nat, k ≤ 141 → cntB β 0 + k ≤ cntB β k := by
      intro k
      induction k with
      | zero => intro _; omega
      | succ k ih => intro hk; have := ih (by omega); have := h k (by omega); omega
    have u := up 141 (Nat.le_refl _)
    have b0 := nF_b (L := bL β) (R := (RDN β 0).1) (T := 60)
    have b1 := nF_b (L := bU β) (R := (RDN β 0).2) (T := 80)
    have c0 := nF_b (L := bL β) (R := (RDN β 141).1) (T := 60)
    have c1 := nF_b (L := bU β) (R := (RDN β 141).2) (T := 80)
    unfold cntB at u
    omega
  · exact h
theorem isK_one {β : ga_S} {K K2 : Nat} (h : isK β K) (g : isK β K2) : K = K2 := by
  rcases Nat.lt_trichotomy K K2 with q | q | q
  · exact absurd (g.1 K q) h.2
  · exact q
  · exact absurd (h.1 K2 q) g.2
theorem isK_same {β : ga_S} {K : Nat} (h : isK β K) : nEq 60 (bL β) (RDN β (K + 1)).1 (RDN β K).1 := by
  have h2 := h.2
  have a := nF_D β K
  have b := nF_N β K
  unfold cntB at h2
  exact nF_same (fun x u a b c d e f g => ((RDN_D β K x u a (by omega) c (by omega) e f).mp g).1) (by omega)
theorem numb_cg {T : Nat} {L : Int → Prop} {C R R2 : Int → Int} {P : Int} (h : numb T L C P R) (e : nEq T L R R2) : numb T L C P R2 := by
  refine ⟨h.1, h.2.1, fun x u a b c d f g => (h.2.2.1 x u a b c d f g).trans (e x u a b c d f g), ?_, h.2.2.2.2⟩
  rw [h.2.2.2.1]
  exact sz_congr (fun i hi => tv_congr ⟨fun z => ⟨z.1, fun u a b c d => z.2 u a b c ((e u i a (by omega) (by omega) (by omega) c z.1).mpr d)⟩, fun z => ⟨z.1, fun u a b c d => z.2 u a b c ((e u i a (by omega) (by omega) (by omega) c z.1).mp d)⟩⟩)
