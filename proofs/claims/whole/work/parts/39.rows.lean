-- sorted rows of codes, counted
theorem sz_congr {f g : Int → Int} : ∀ {n : Nat}, (∀ i : Nat, i < n → f i = g i) → sz f n = sz g n
  | 0, _ => rfl
  | n + 1, h => by rw [sz_s, sz_s, sz_congr (fun i hi => h i (by omega)), h n (by omega)]
theorem insR_out {s c j : Int} : ∀ {m : Nat} {f : Int → Int}, (j < s ∨ s + m < j) → insR s c m f j = f j
  | 0, f, h => ga_up_ne _ _ (by omega)
  | m + 1, f, h => by
    unfold insR
    split
    · rw [insR_out (by omega), ga_up_ne _ _ (by omega)]
    · exact ga_up_ne _ _ (by omega)
theorem insR_le {s c b : Int} : ∀ {m : Nat} {f : Int → Int}, (∀ i : Int, 0 ≤ i → i < m → f (s + i) ≤ b) → c ≤ b → ∀ i : Int, 0 ≤ i → i ≤ m → insR s c m f (s + i) ≤ b
  | 0, f, _, hc, i, h1, h2 => by
    rw [show i = 0 by omega, Int.add_zero]
    unfold insR
    rw [ga_up_at]; exact hc
  | m + 1, f, h, hc, i, h1, h2 => by
    unfold insR
    split
    · by_cases q : i = m + 1
      · rw [insR_out (by omega), q, show s + ((m : Int) + 1) = s + m + 1 by omega, ga_up_at]
        exact h m (by omega) (by omega)
      · refine insR_le (fun i h3 h4 => ?_) hc i h1 (by omega)
        rw [ga_up_ne _ _ (by omega)]
        exact h i h3 (by omega)
    · by_cases q : i = m + 1
      · rw [q, show s + ((m : Int) + 1) = s + m + 1 by omega, ga_up_at]; exact hc
      · rw [ga_up_ne _ _ (by omega)]; exact h i h1 (by omega)
def srt (f : Int → Int) (s n : Int) : Prop := ∀ i j : Int, 0 ≤ i → i ≤ j → j < n → f (s + i) ≤ f (s + j)
theorem insR_srt {s c : Int} : ∀ {m : Nat} {f : Int → Int}, srt f s m → srt (insR s c m f) s (m + 1)
  | 0, f, _, i, j, h1, h2, h3 => by rw [show i = j by omega]; exact Int.le_refl _
  | m + 1, f, h, i, j, h1, h2, h3 => by
    unfold insR
    have h' : srt (ga_up f (s + m + 1) (f (s + m))) s m := fun i j a b d => by
      rw [ga_up_ne _ _ (by omega), ga_up_ne _ _ (by omega)]; exact h i j a b (by omega)
    split
    · by_cases q : j = m + 1
      · rw [q, show s + ((m : Int) + 1) = s + m + 1 by omega, insR_out (j := s + m + 1) (by omega), ga_up_at]
        by_cases q2 : i = m + 1
        · rw [q2, show s + ((m : Int) + 1) = s + m + 1 by omega, insR_out (j := s + m + 1) (by omega), ga_up_at]
          exact Int.le_refl _
        · refine insR_le (fun i h3 h4 => ?_) (by omega) i h1 (by omega)
          rw [ga_up_ne _ _ (by omega)]
          exact h i m h3 (by omega) (by omega)
      · exact insR_srt h' i j h1 h2 (by omega)
    · by_cases q : j = m + 1
      · rw [q, show s + ((m : Int) + 1) = s + m + 1 by omega, ga_up_at]
        by_cases q2 : i = m + 1
        · rw [q2, show s + ((m : Int) + 1) = s + m + 1 by omega, ga_up_at]
          exact Int.le_refl _
        · rw [ga_up_ne _ _ (by omega)]
          have := h i m h1 (by omega) (by omega)
          omega
      · rw [ga_up_ne _ _ (by omega), ga_up_ne _ _ (by omega)]
        exact h i j h1 h2 (by omega)
theorem insR_sz {s c : Int} (q : Int → Int) : ∀ {m : Nat} {f : Int → Int}, sz (fun i => q (insR s c m f (s + i))) (m + 1) = sz (fun i => q (f (s + i))) m + q c
  | 0, f => by
    rw [sz_s]
    show 0 + q (ga_up f s c (s + ((0 : Nat) : Int))) = 0 + q c
    rw [show s + ((0 : Nat) : Int) = s by omega, ga_up_at]
  | m + 1, f => by
    by_cases h : c < f (s + m)
    · have e : insR s c (m + 1) f = insR s c m (ga_up f (s + m + 1) (f (s + m))) := by rw [insR, if_pos h]
      rw [e, sz_s, insR_sz q (m := m) (f := ga_up f (s + m + 1) (f (s + m)))]
      show _ + q (insR _ _ _ _ (s + ((m + 1 : Nat) : Int))) = _
      rw [insR_out (by omega), show s + ((m + 1 : Nat) : Int) = s + m + 1 by omega, ga_up_at, sz_s]
      rw [sz_congr (f := fun i => q (ga_up f (s + m + 1) (f (s + m)) (s + i))) (g := fun i => q (f (s + i))) (fun i hi => by show q (ga_up f _ _ (s + i)) = _; rw [ga_up_ne _ _ (by omega)])]
      show _ + q c + q (f (s + m)) = _ + q (f (s + m)) + q c
      omega
    · have e : insR s c (m + 1) f = ga_up f (s + m + 1) c := by rw [insR, if_neg h]
      rw [e, sz_s]
      show _ + q (ga_up f _ _ (s + ((m + 1 : Nat) : Int))) = _
      rw [show s + ((m + 1 : Nat) : Int) = s + m + 1 by omega, ga_up_at]
      rw [sz_congr (f := fun i => q (ga_up f (s + m + 1) c (s + i))) (g := fun i => q (f (s + i))) (fun i hi => by show q (ga_up f _ _ (s + i)) = _; rw [ga_up_ne _ _ (by omega)])]
theorem sz_nn {f : Int → Int} (h : ∀ i : Int, 0 ≤ f i) : ∀ n : Nat, 0 ≤ sz f n
  | 0 => Int.le_refl _
  | n + 1 => by have := sz_nn h n; have := h n; rw [sz_s]; omega
theorem sz_pos {P : Int → Prop} : ∀ {n : Nat}, 0 < sz (fun i => tv (P i)) n → ∃ i : Nat, i < n ∧ P i
  | 0, h => absurd h (Int.lt_irrefl _)
  | n + 1, h => by
    by_cases q : P n
    · exact ⟨n, by omega, q⟩
    · rw [sz_s, tvz q, Int.add_zero] at h
      obtain ⟨i, h1, h2⟩ := sz_pos h
      exact ⟨i, by omega, h2⟩
theorem sz_ge1 {P : Int → Prop} {n i : Nat} (hi : i < n) (h : P i) : 0 < sz (fun i => tv (P i)) n := by
  induction n with
  | zero => omega
  | succ n ih =>
    rw [sz_s]
    have := (tv_le (p := P n)).1
    by_cases q : i = n
    · subst q
      rw [tv1 h]
      have := sz_nn (f := fun i => tv (P i)) (fun i => (tv_le (p := P i)).1) i
      omega
    · have := ih (by omega)
      omega
theorem srt_eq {f : Int → Int} {s t : Int} : ∀ {n : Nat}, srt f s n → srt f t n → (∀ c, sz (fun i => tv (f (s + i) = c)) n = sz (fun i => tv (f (t + i) = c)) n) → ∀ i : Nat, i < n → f (s + i) = f (t + i)
  | 0, _, _, _, i, hi => absurd hi (Nat.not_lt_zero _)
  | n + 1, hs, ht, hc, i, hi => by
    have a1 : f (s + n) ≤ f (t + n) := by
      have q : 0 < sz (fun i => tv (f (s + i) = f (s + n))) (n + 1) := sz_ge1 (P := fun i => f (s + i) = f (s + n)) (show n < n + 1 by omega) rfl
      rw [hc] at q
      obtain ⟨j, h1, h2⟩ := sz_pos (P := fun i => f (t + i) = f (s + n)) q
      rw [← h2]
      exact ht j n (by omega) (by omega) (by omega)
    have a2 : f (t + n) ≤ f (s + n) := by
      have q : 0 < sz (fun i => tv (f (t + i) = f (t + n))) (n + 1) := sz_ge1 (P := fun i => f (t + i) = f (t + n)) (show n < n + 1 by omega) rfl
      rw [← hc] at q
      obtain ⟨j, h1, h2⟩ := sz_pos (P := fun i => f (s + i) = f (t + n)) q
      rw [← h2]
      exact hs j n (by omega) (by omega) (by omega)
    have e : f (s + n) = f (t + n) := by omega
    by_cases q : i = n
    · rw [q]; exact e
    · refine srt_eq (n := n) (fun i j h1 h2 h3 => hs i j h1 h2 (by omega)) (fun i j h1 h2 h3 => ht i j h1 h2 (by omega)) (fun c => ?_) i (by omega)
      have := hc c
      rw [sz_s, sz_s, e] at this
      omega
/-- the row of u: sorted, len codes, cnt c of them c -/
def rowI (f cc : Int → Int) (K u : Int) (cnt : Int → Int) (len : Int) : Prop := cc u = len ∧ 0 ≤ len ∧ srt f (u * K) len ∧ ∀ c, sz (fun i => tv (f (u * K + i) = c)) len.toNat = cnt c
theorem rowI_sm {f cc : Int → Int} {K u v : Int} {c1 c2 : Int → Int} {l1 l2 : Int} (h : rowI f cc K u c1 l1) (g : rowI f cc K v c2 l2) : smC f cc K u v ↔ l1 = l2 ∧ ∀ c, c1 c = c2 c := by
  obtain ⟨h1, h2, h3, h4⟩ := h
  obtain ⟨g1, g2, g3, g4⟩ := g
  constructor
  · rintro ⟨q1, q2⟩
    have e : l1 = l2 := by omega
    refine ⟨e, fun c => ?_⟩
    rw [← h4, ← g4, ← e]
    exact sz_congr (fun i hi => by rw [q2 i (by omega)])
  · rintro ⟨q1, q2⟩
    refine ⟨by omega, fun i hi => ?_⟩
    refine srt_eq (n := l1.toNat) (fun a b d e k => h3 a b d e (by omega)) (fun a b d e k => g3 a b d e (by omega)) (fun c => ?_) i (by omega)
    rw [h4, q1, g4]
    exact q2 c
theorem rowI_ins {f cc : Int → Int} {K u c : Int} {cnt : Int → Int} {n : Nat} (h : rowI f cc K u cnt n) : rowI (insR (u * K) c n f) (ga_up cc u (n + 1)) K u (fun c2 => cnt c2 + tv (c = c2)) (n + 1) := by
  obtain ⟨h1, h2, h3, h4⟩ := h
  refine ⟨ga_up_at _ _ _, by omega, insR_srt h3, fun c2 => ?_⟩
  rw [show ((n : Int) + 1).toNat = n + 1 by omega, insR_sz (fun x => tv (x = c2))]
  show _ = cnt c2 + _
  rw [← h4 c2, Int.toNat_natCast]
theorem rowI_fr {f cc : Int → Int} {K u v c w : Int} {cnt : Int → Int} {n : Nat} {l : Int} (hK : 0 ≤ K) (hn : n < K) (hl : l ≤ K) (hv : v ≠ u) (h : rowI f cc K v cnt l) : rowI (insR (u * K) c n f) (ga_up cc u w) K v cnt l := by
  obtain ⟨h1, h2, h3, h4⟩ := h
  have key : ∀ i : Int, 0 ≤ i → i < l → insR (u * K) c n f (v * K + i) = f (v * K + i) := fun i a b => by
    refine insR_out ?_
    rcases Int.lt_or_le v u with q | q
    · have : (v + 1) * K ≤ u * K := Int.mul_le_mul_of_nonneg_right (by omega) hK
      rw [Int.add_mul] at this
      omega
    · have : (u + 1) * K ≤ v * K := Int.mul_le_mul_of_nonneg_right (by omega) hK
      rw [Int.add_mul] at this
      omega
  refine ⟨by rw [ga_up_ne _ _ hv]; exact h1, h2, fun i j a b d => ?_, fun c2 => ?_⟩
  · rw [key i a (by omega), key j (by omega) d]; exact h3 i j a b d
  · rw [← h4 c2]
    exact sz_congr (fun i hi => by rw [key i (by omega) (by omega)])
/-- the row of u holds the codes of the first e events that are u's -/
def rowE (f cc : Int → Int) (K u : Int) (Q : Int → Prop) (code : Int → Int) (e : Nat) : Prop := rowI f cc K u (fun c => sz (fun z => tv (Q z ∧ code z = c)) e) (sz (fun z => tv (Q z)) e)
theorem rowE_no {f cc : Int → Int} {K u : Int} {Q : Int → Prop} {code : Int → Int} {e : Nat} (h : rowE f cc K u Q code e) (hq : ¬ Q e) : rowE f cc K u Q code (e + 1) := by
  unfold rowE at h ⊢
  rw [sz_s, tvz hq, Int.add_zero]
  have e2 : (fun c => sz (fun z => tv (Q z ∧ code z = c)) (e + 1)) = fun c => sz (fun z => tv (Q z ∧ code z = c)) e := by
    funext c
    rw [sz_s, tvz (fun z => hq z.1), Int.add_zero]
  rw [e2]
  exact h
theorem rowE_ins {f cc : Int → Int} {K u : Int} {Q : Int → Prop} {code : Int → Int} {e n : Nat} (h : rowE f cc K u Q code e) (hq : Q e) (hn : cc u = n) : rowE (insR (u * K) (code e) n f) (ga_up cc u (n + 1)) K u Q code (e + 1) := by
  unfold rowE at h ⊢
  have e1 : sz (fun z => tv (Q z)) e = n := h.1.symm.trans hn
  rw [e1] at h
  have e2 : (fun c => sz (fun z => tv (Q z ∧ code z = c)) (e + 1)) = fun c2 => sz (fun z => tv (Q z ∧ code z = c2)) e + tv (code e = c2) := by
    funext c
    rw [sz_s, tv_congr (show (Q e ∧ code e = c) ↔ code e = c from ⟨fun z => z.2, fun z => ⟨hq, z⟩⟩)]
  rw [sz_s, tv1 hq, e1, e2]
  exact rowI_ins h
theorem rowE_fr {f cc : Int → Int} {K u v c w : Int} {Q : Int → Prop} {code : Int → Int} {e n : Nat} (hK : 0 ≤ K) (hn : n < K) (hl : sz (fun z => tv (Q z)) e ≤ K) (hv : v ≠ u) (h : rowE f cc K v Q code e) : rowE (insR (u * K) c n f) (ga_up cc u w) K v Q code e := rowI_fr hK hn hl hv h
theorem sz_from {Q : Int → Prop} {a : Nat} (h : ∀ z : Int, Q z → a ≤ z) : ∀ e : Nat, sz (fun z => tv (Q z)) e ≤ e - a ∨ (e ≤ a ∧ sz (fun z => tv (Q z)) e = 0)
  | 0 => Or.inr ⟨Nat.zero_le _, rfl⟩
  | e + 1 => by
    rw [sz_s]
    have q := (tv_le (p := Q e)).2
    rcases sz_from h e with z | ⟨z1, z2⟩
    · left; omega
    · rcases Nat.lt_or_ge e a with g | g
      · right
        rw [z2, tvz (fun z => by have := h e z; omega)]
        exact ⟨by omega, rfl⟩
      · left; omega
theorem rowE_0 {f cc : Int → Int} {K u : Int} {Q : Int → Prop} {code : Int → Int} (h : cc u = 0) : rowE f cc K u Q code 0 := ⟨h, Int.le_refl _, fun i j a b d => by have : j < 0 := d; omega, fun c => rfl⟩
