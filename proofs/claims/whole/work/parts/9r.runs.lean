-- one call of both: run; what the search leaves
theorem gN_sp (β : ga_S) (ch : Int → Int) (L : Int) : ∀ (n : Nat) (i : Int), gN β ch L n i ≠ -1 → (0 ≤ i ∧ i < n ∧ bU β i) ∧ (0 ≤ gN β ch L n i ∧ gN β ch L n i < 40 ∧ bU β (40 + gN β ch L n i)) ∧ ∀ j : Int, 0 ≤ j → j < i → gN β ch L n j ≠ gN β ch L n i
  | 0, i, h => absurd rfl h
  | n + 1, i, h => by
    rw [gN_s] at h ⊢
    by_cases q : i = n
    · subst q
      rw [ga_up_at] at h ⊢
      by_cases u : bU β n
      · rw [tif1 u] at h ⊢
        rcases lstF_is (fun m => bU β (40 + m) ∧ (∀ i : Int, 0 ≤ i → i < n → gN β ch L n i ≠ m) ∧ SE β ch L n (40 + m)) 40 with ⟨a, _⟩ | ⟨a, b, c, _⟩
        · exact absurd a h
        · refine ⟨⟨by omega, by omega, u⟩, ⟨a, b, c.1⟩, fun j j1 j2 => ?_⟩
          rw [ga_up_ne _ _ (by omega)]
          exact c.2.1 j j1 j2
      · rw [tif0 u] at h
        exact absurd rfl h
    · rw [ga_up_ne _ _ q] at h ⊢
      obtain ⟨⟨a1, a2, a3⟩, b, c⟩ := gN_sp β ch L n i h
      refine ⟨⟨a1, by omega, a3⟩, b, fun j j1 j2 => ?_⟩
      rw [ga_up_ne _ _ (by omega)]
      exact c j j1 j2
theorem gN_inj {β : ga_S} {ch : Int → Int} {L : Int} {n : Nat} {i j : Int} (h : gN β ch L n i ≠ -1) (e : gN β ch L n i = gN β ch L n j) : i = j := by
  have a := gN_sp β ch L n i h
  have b := gN_sp β ch L n j (by rw [← e]; exact h)
  rcases Int.lt_trichotomy i j with q | q | q
  · exact absurd e (b.2.2 i a.1.1 q)
  · exact q
  · exact absurd e.symm (a.2.2 j b.1.1 q)
theorem Srch_R {β : ga_S} {R : Int → Int} {lim L : Int} : ∀ {n : Nat} {d : Int} {ch : Int → Int} {t r : Int} {c2 : Int → Int}, Srch β R lim L n d ch t r c2 → r = 1 → (∀ i : Int, 0 ≤ i → i < d → R (30 + ch i) = R (ln β i)) → ∀ i : Int, 0 ≤ i → i < L → R (30 + c2 i) = R (ln β i)
  | 0, d, ch, t, r, c2, h, hr, g => by
    rcases h with ⟨_, h⟩ | ⟨_, h, _, e⟩ | ⟨_, _, _, _, h⟩
    · omega
    · rw [e]
      exact fun i i1 i2 => g i i1 (by omega)
    · omega
  | n + 1, d, ch, t, r, c2, h, hr, g => by
    obtain ⟨_, _, h⟩ := h
    rcases h with ⟨_, h⟩ | ⟨e, k, _, ⟨_, h⟩ | ⟨_, h⟩⟩
    · exact Srch_R h hr (fun i i1 i2 => by rw [ga_up_ne _ _ (by omega)]; exact g i i1 (by omega))
    · refine Srch_R h hr (fun i i1 i2 => ?_)
      by_cases q : i = d
      · rw [q, ga_up_at]
        exact k.2.2.2.1.2.2
      · rw [ga_up_ne _ _ q]
        exact g i i1 (by omega)
    · exact Srch_R h hr (fun i i1 i2 => by rw [ga_up_ne _ _ (by omega)]; exact g i i1 (by omega))
theorem RDN_kd (β : ga_S) {x u : Int} (x1 : 0 ≤ x) (x2 : x < 60) (u1 : 0 ≤ u) (u2 : u < 60) (lx : bL β x) (lu : bL β u) : ∀ k : Nat, (RDN β k).1 x = (RDN β k).1 u → β.1 66 x = β.1 66 u
  | 0, h => h
  | k + 1, h => RDN_kd β x1 x2 u1 u2 lx lu k ((RDN_D β k x u x1 x2 u1 u2 lx lu).mp h).1
theorem dlh_eq {f g : Int → Int} {n m : Int} {l : List d4} (h1 : dlh f n l) (h2 : dlh g m l) : n = m ∧ ∀ j : Int, 0 ≤ j → j < 4 * m → f j = g j := by
  refine ⟨by rw [h1.1, h2.1], fun j j1 j2 => ?_⟩
  have hm := h2.1
  have a := h1.2 (j / 4).toNat (by omega)
  have b := h2.2 (j / 4).toNat (by omega)
  rw [a] at b
  have e : ((j / 4).toNat : Int) = j / 4 := by omega
  rw [e] at b
  simp only [Option.some.injEq, Prod.mk.injEq] at b
  obtain ⟨b0, b1, b2, b3⟩ := b
  rcases (show j = j / 4 * 4 ∨ j = j / 4 * 4 + 1 ∨ j = j / 4 * 4 + 2 ∨ j = j / 4 * 4 + 3 by omega) with q | q | q | q <;> rw [q] <;> assumption
theorem dfL_len (σ : ga_S) (N D M E : Nat) (R p q : Int → Int) (X : Prop) (y : d4) : (dfL ((kdL (ofk σ 0 D) (ofk σ 1 E) 8 ++ tif X [] [y]) ++ nmL p q N M 80 (-1)) (clP σ R D E 60)).length ≤ 89 := by
  have a := kdL_len (ofk σ 0 D) (ofk σ 1 E) 8
  have b := nmL_len p q N M 80 (-1)
  have c := clP_len σ R D E 60
  have d : (tif X [] [y] : List d4).length ≤ 1 := by
    by_cases w : X
    · rw [tif1 w]; exact Nat.zero_le _
    · rw [tif0 w]; exact Nat.le_refl _
  unfold dfL
  generalize hl : (kdL (ofk σ 0 D) (ofk σ 1 E) 8 ++ tif X [] [y]) ++ nmL p q N M 80 (-1) = l
  have e : l.length ≤ 89 := by
    rw [← hl, List.length_append, List.length_append]
    omega
  by_cases w : l = []
  · rw [tif1 w]
    by_cases w2 : clP σ R D E 60 = []
    · rw [tif1 w2]
      exact Nat.le_of_ble_eq_true rfl
    · rw [tif0 w2]
      omega
  · rw [tif0 w]
    exact e
abbrev RUNL : List Nat := 0 :: 55 :: 56 :: 57 :: 58 :: 59 :: 60 :: 61 :: 77 :: 78 :: 79 :: SCR
theorem Inv_run {σ τ : ga_S} {N D M E : Nat} (h : Inv σ N D M E) (e : ∀ c, c ∉ RUNL → τ.1 c = σ.1 c) (h2 : τ.2 = σ.2) (hd : dfB τ) (hk : kpB τ N D M E) : Inv τ N D M E := by
  obtain ⟨⟨a1, a2⟩, ⟨b1, b2, b3⟩, ⟨c1, c2, c3, c4⟩, _, _⟩ := h
  have hc : ∀ c, 64 ≤ c → c ≤ 70 → τ.1 c = σ.1 c := fun c a b => e c (by
    rcases (show c = 64 ∨ c = 65 ∨ c = 66 ∨ c = 67 ∨ c = 68 ∨ c = 69 ∨ c = 70 by omega) with q | q | q | q | q | q | q <;> subst q <;> decide)
  refine ⟨⟨SD_cg (e 2 (by decide)) (e 3 (by decide)) (e 5 (by decide)) (e 7 (by decide)) (e 8 (by decide)) (by rw [h2]) hc (by rw [h2]) a1, SD_cg (e 9 (by decide)) (e 10 (by decide)) (e 12 (by decide)) (e 14 (by decide)) (e 15 (by decide)) (by rw [h2]) hc (by rw [h2]) a2⟩, ⟨?_, ?_, ?_⟩, ⟨?_, ?_, ?_, ?_⟩, hd, hk⟩
  · unfold agG; rw [e 17 (by decide), e 71 (by decide)]; exact b1
  · unfold agH; rw [h2]; exact b2
  · unfold shB; rw [h2]; exact b3
  · rw [e 66 (by decide)]; exact c1
  · rw [e 69 (by decide)]; exact c2
  · rw [e 64 (by decide)]; exact c3
  · exact (cg_unq (e 64 (by decide)) (e 65 (by decide))).mpr c4
theorem exc_run {L : List Nat} {σ τ : ga_S} (h : exc L σ τ) (hL : ∀ c ∈ L, c ∈ RUNL) : exc RUNL σ τ := ⟨fun c hc => h.1 c (fun w => hc (hL c w)), h.2⟩
/-- what the search's end says of the pairs that are kept -/
theorem prs_run {σ υ : ga_S} {N D M E K : Nat} {c2 f59 : Int → Int} {n : Nat} {x : Int} (hw : wfR σ N D M E) (hS : Srch σ (RDN σ K).1 x (lnC σ 30) n 0 (fun _ => -1) 0 1 c2) (hc : ∀ i : Int, 0 ≤ i → i < lnC σ 30 → 0 ≤ c2 i ∧ c2 i < E ∧ bL σ (30 + c2 i)) (h66 : υ.1 66 = σ.1 66) (hdp : dpP (ln σ) c2 (υ.1 78) (lnC σ 30)) (hN : ∀ n : Int, 0 ≤ n → n < 40 → υ.1 79 n = gN σ c2 (lnC σ 30) 40 n) (hK : KN2 (gN σ c2 (lnC σ 30) 40) f59 40) : prs υ f59 N D M E := by
  obtain ⟨_, hD, hD2, hNN, hN2, _, _⟩ := hw.1
  obtain ⟨_, hE, hE2, hM, hM2, _, _⟩ := hw.2.1
  obtain ⟨p1, p2, p3, p4⟩ := hdp
  have hR := Srch_R hS rfl (fun i i1 i2 => by omega)
  have lnI : ∀ i : Int, 0 ≤ i → i < lnC σ 30 → 0 ≤ ln σ i ∧ ln σ i < D ∧ bL σ (ln σ i) := fun i i1 i2 => by
    have k := ln_in (β := σ) (e := 30) (by decide) i i1 i2
    have := ((bL_0 hD (i := ln σ i) (by omega) (by omega)).mp k.2.2.1).1
    exact ⟨k.1, this, k.2.2.1⟩
  have uN : ∀ n : Int, 0 ≤ n → n < 40 → bU σ n → n < N := fun n n1 n2 u => by
    have := u.1
    rw [show n % 40 = n by omega, show n / 40 = 0 by omega, hNN] at this
    exact this
  have uM : ∀ n : Int, 0 ≤ n → n < 40 → bU σ (40 + n) → n < M := fun n n1 n2 u => by
    have := u.1
    rw [show (40 + n) % 40 = n by omega, show (40 + n) / 40 = 1 by omega, hM] at this
    exact this
  refine ⟨fun d d1 d2 => ?_, fun e e1 e2 => ?_, fun n n1 n2 => ?_, fun m m1 m2 => ?_⟩
  · by_cases q : ∀ i : Int, 0 ≤ i → i < lnC σ 30 → ln σ i ≠ d
    · exact Or.inl (p1 d d1 d2 q)
    · simp only [Classical.not_forall, Classical.not_not] at q
      obtain ⟨i, i1, i2, i3⟩ := q
      have k := lnI i i1 i2
      have c := hc i i1 i2
      have e := p2 i i1 i2
      subst i3
      rw [e, p4 i i1 i2, h66]
      exact Or.inr ⟨k.2.1, c.1, c.2.1, rfl, (RDN_kd σ (by omega) (by omega) (by omega) (by omega) c.2.2 k.2.2 K (hR i i1 i2)).symm⟩
  · by_cases q : ∀ i : Int, 0 ≤ i → i < lnC σ 30 → c2 i ≠ e
    · exact Or.inl (p3 e e1 e2 q)
    · simp only [Classical.not_forall, Classical.not_not] at q
      obtain ⟨i, i1, i2, i3⟩ := q
      have k := lnI i i1 i2
      have c := hc i i1 i2
      subst i3
      rw [p4 i i1 i2, p2 i i1 i2]
      exact Or.inr ⟨c.2.1, k.1, k.2.1, rfl⟩
  · rw [hN n n1 n2]
    by_cases q : gN σ c2 (lnC σ 30) 40 n = -1
    · exact Or.inl q
    · have k := gN_sp σ c2 (lnC σ 30) 40 n q
      refine Or.inr ⟨uN n n1 n2 k.1.2.2, k.2.1.1, uM _ k.2.1.1 k.2.1.2.1 k.2.1.2.2, ?_⟩
      rcases hK _ k.2.1.1 k.2.1.2.1 with ⟨_, w⟩ | ⟨w1, w2, w3⟩
      · exact absurd rfl (w n n1 n2)
      · exact (gN_inj q w3.symm).symm
  · rcases hK m m1 m2 with ⟨w, _⟩ | ⟨w1, w2, w3⟩
    · exact Or.inl w
    · have q : gN σ c2 (lnC σ 30) 40 (f59 m) ≠ -1 := by omega
      have k := gN_sp σ c2 (lnC σ 30) 40 (f59 m) q
      rw [w3] at k
      rw [hN _ w1 w2]
      exact Or.inr ⟨uM m m1 m2 k.2.1.2.2, w1, uN _ w1 w2 k.1.2.2, w3⟩
