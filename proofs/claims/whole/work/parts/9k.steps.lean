-- one call of both: net, device
def IvO (σ : ga_S) : Prop := ∃ N D M E, Inv σ N D M E
abbrev x13 (σ : ga_S) (bad : Int → Prop) : ga_Px := fun E h => ((E = xI ∧ bad 1) ∨ (E = xS ∧ bad 2) ∨ (E = xA ∧ bad 3)) ∧ h = HP σ
abbrev x12 (σ : ga_S) (bad : Int → Prop) : ga_Px := fun E h => ((E = xI ∧ bad 1) ∨ (E = xA ∧ bad 2)) ∧ h = HP σ
abbrev x1I (σ : ga_S) (bad : Int → Prop) : ga_Px := fun E h => ((E = xI ∧ bad 1)) ∧ h = HP σ
abbrev x1A (σ : ga_S) (bad : Int → Prop) : ga_Px := fun E h => ((E = xA ∧ bad 1)) ∧ h = HP σ
/-- what the reference ends with -/
def REND (c : Int) (A : Int → Prop) : ga_Po := fun v h => ∃ b σ2, A b ∧ v = some (Vi b) ∧ h = HP σ2 ∧ σ2.1 63 0 = c ∧ (c = 0 → σ2.1 88 0 = b) ∧ IvO σ2
/-- class and reference answer alike, and keep what they keep to -/
def STEP (Q : Int → Prop) (mC mR : ga_M0) (Xf : (Int → Prop) → ga_Px) (as : List ga_V) (σ : ga_S) : Prop := ∃ (ok : Int → ga_S → Prop) (bad : Int → Prop), (∃ t2 m2 s2 : Nat, t2 ≤ 8 ∧ m2 ≤ 1 ∧ s2 ≤ 6 ∧ ga_Mt t2 m2 s2 mC (Vr 0 :: as) (HP σ) (okP ok) (Xf bad)) ∧ (∀ a σ1, ok a σ1 → Q a ∧ ∃ tR, tR ≤ 10 ∧ ga_Mt tR 0 0 mR (Vr 63 :: as) (HP (outS σ1 a)) (REND 0 (fun b => b = a)) ga_nox) ∧ ∀ c, bad c → ∃ tR, tR ≤ 10 ∧ ga_Mt tR 0 0 mR (Vr 63 :: as) (HP σ) (REND c (fun _ => True)) ga_nox
theorem STEP_of {Q : Int → Prop} {mC mR : ga_M0} {Xf : (Int → Prop) → ga_Px} {as : List ga_V} {σ : ga_S} (ok : Int → ga_S → Prop) (bad : Int → Prop) {t2 m2 s2 : Nat} (ht : t2 ≤ 8) (hm : m2 ≤ 1) (hs : s2 ≤ 6) {P : ga_Po} {X : ga_Px} (hC : ga_Mt t2 m2 s2 mC (Vr 0 :: as) (HP σ) P X) (hP : ∀ v h, P v h → okP ok v h) (hX : ∀ E h, X E h → Xf bad E h) (h1 : ∀ a σ1, ok a σ1 → Q a ∧ ∃ tR, tR ≤ 10 ∧ ga_Mt tR 0 0 mR (Vr 63 :: as) (HP (outS σ1 a)) (REND 0 (fun b => b = a)) ga_nox) (h2 : ∀ c, bad c → ∃ tR, tR ≤ 10 ∧ ga_Mt tR 0 0 mR (Vr 63 :: as) (HP σ) (REND c (fun _ => True)) ga_nox) : STEP Q mC mR Xf as σ :=
  ⟨ok, bad, ⟨t2, m2, s2, ht, hm, hs, hC.mono hP hX⟩, h1, h2⟩
theorem REND_bad {σ : ga_S} {c : Int} (hc : c ≠ 0) (hI : IvO σ) {v : Option ga_V} {h : ga_H} {b : Int} (hv : v = some (Vi b)) (hh : h = HP (cd0 σ c)) : REND c (fun _ => True) v h := by
  obtain ⟨N, D, M, E, k⟩ := hI
  exact ⟨b, cd0 σ c, trivial, hv, hh, rfl, fun w => absurd w hc, ⟨N, D, M, E, Inv_cd0 k⟩⟩
theorem SD_keep {i : Int} {cnt port kind gone pins cnt2 port2 kind2 gone2 pins2 : Int → Int} {sizes sizes2 : Int → UInt64} {σ τ : ga_S} {N D : Nat} (e1 : cnt2 = cnt) (e2 : port2 = port) (e3 : kind2 = kind) (e4 : gone2 = gone) (e5 : pins2 = pins) (e6 : sizes2 = sizes) (p65 : τ.1 65 i = σ.1 65 i) (p70 : τ.1 70 i = σ.1 70 i) (q64 : ∀ n : Int, 0 ≤ n → n < 40 → τ.1 64 (40 * i + n) = σ.1 64 (40 * i + n)) (q : ∀ d : Int, 0 ≤ d → d < 30 → τ.1 66 (30 * i + d) = σ.1 66 (30 * i + d) ∧ τ.1 68 (30 * i + d) = σ.1 68 (30 * i + d) ∧ τ.2 67 (30 * i + d) = σ.2 67 (30 * i + d)) (q69 : ∀ j : Int, 0 ≤ j → j < 120 → τ.1 69 (120 * i + j) = σ.1 69 (120 * i + j)) (h : SD i cnt port kind gone pins sizes σ N D) : SD i cnt2 port2 kind2 gone2 pins2 sizes2 τ N D := by
  subst e1 e2 e3 e4 e5 e6
  obtain ⟨⟨a1, a2, a3, a4, a5, a6⟩, b, c, d, e⟩ := h
  have N2 := a1.2.1
  have D2 := a1.2.2.2.1
  refine ⟨⟨a1, by rw [p65]; exact a2, by rw [p70]; exact a3, fun n n1 n2 => by rw [q64 n n1 (by omega)]; exact a4 n n1 n2, fun d d1 d2 => ?_, fun j j1 j2 => by rw [q69 j j1 (by omega)]; exact a6 j j1 j2⟩, b, c, d, finS_cg (fun d d1 d2 => ⟨(q d d1 d2).2.1, (q d d1 d2).2.2⟩) D2 e⟩
  have k := q d d1 (by omega)
  rw [k.1, k.2.1, k.2.2]
  exact a5 d d1 d2
theorem prs_mono {σ τ : ga_S} {f : Int → Int} {N D M E N2 D2 M2 E2 : Nat} (h : prs σ f N D M E) (hN : N ≤ N2) (hD : D ≤ D2) (hM : M ≤ M2) (hE : E ≤ E2) (e78 : ∀ d : Int, 0 ≤ d → d < 60 → τ.1 78 d = σ.1 78 d) (e79 : τ.1 79 = σ.1 79) (e66 : ∀ d : Int, (0 ≤ d ∧ d < D) ∨ (30 ≤ d ∧ d < 30 + E) → τ.1 66 d = σ.1 66 d) (hE9 : E ≤ 30) (hD9 : D ≤ 30) : prs τ f N2 D2 M2 E2 := by
  obtain ⟨h1, h2, h3, h4⟩ := h
  refine ⟨fun d d1 d2 => ?_, fun d d1 d2 => ?_, fun n n1 n2 => ?_, fun m m1 m2 => ?_⟩
  · rw [e78 d d1 (by omega)]
    rcases h1 d d1 d2 with q | ⟨q1, q2, q3, q4, q5⟩
    · exact Or.inl q
    · rw [e78 _ (by omega) (by omega), e66 d (Or.inl ⟨d1, q1⟩), e66 _ (Or.inr ⟨by omega, by omega⟩)]
      exact Or.inr ⟨by omega, q2, by omega, q4, q5⟩
  · rw [e78 (30 + d) (by omega) (by omega)]
    rcases h2 d d1 d2 with q | ⟨q1, q2, q3, q4⟩
    · exact Or.inl q
    · rw [e78 _ (by omega) (by omega)]
      exact Or.inr ⟨by omega, q2, by omega, q4⟩
  · rw [e79]
    rcases h3 n n1 n2 with q | ⟨q1, q2, q3, q4⟩
    · exact Or.inl q
    · exact Or.inr ⟨by omega, q2, by omega, q4⟩
  · rw [e79]
    rcases h4 m m1 m2 with q | ⟨q1, q2, q3, q4⟩
    · exact Or.inl q
    · exact Or.inr ⟨by omega, q2, by omega, q4⟩
theorem kpB_keep {σ τ : ga_S} {N D M E N2 D2 M2 E2 : Nat} (h : kpB σ N D M E) (hN : N ≤ N2) (hD : D ≤ D2) (hM : M ≤ M2) (hE : E ≤ E2) (e55 : τ.1 55 = σ.1 55) (e18 : τ.1 63 18 = σ.1 63 18) (e56 : τ.1 56 = σ.1 56) (e57 : τ.1 57 = σ.1 57) (e58 : τ.1 58 = σ.1 58) (e59 : τ.1 59 = σ.1 59) (e78 : σ.1 63 18 ≠ 0 → ∀ d : Int, 0 ≤ d → d < 60 → τ.1 78 d = σ.1 78 d) (e79 : τ.1 79 = σ.1 79) (e66 : ∀ d : Int, (0 ≤ d ∧ d < D) ∨ (30 ≤ d ∧ d < 30 + E) → τ.1 66 d = σ.1 66 d) (hE9 : E ≤ 30) (hD9 : D ≤ 30) : kpB τ N2 D2 M2 E2 := by
  obtain ⟨k1, k2, k3⟩ := h
  refine ⟨by rw [e55, e18]; exact k1, by rw [e18, e56, e57, e58, e59]; exact k2, fun w => ?_⟩
  rw [e18] at w
  obtain ⟨a, b, c⟩ := k3 w
  have e78' := e78 w
  refine ⟨fun d d1 d2 => ?_, fun n n1 n2 => by rw [e58, e79]; exact b n n1 n2, by rw [e59]; exact prs_mono c hN hD hM hE e78' e79 e66 hE9 hD9⟩
  rw [e56, e57, e78' d d1 (by omega), e78' (30 + d) (by omega) (by omega)]
  exact a d d1 d2
theorem dfB_keep {σ τ : ga_S} (h : dfB σ) (e0 : τ.1 0 = σ.1 0) (e63 : ∀ j : Int, j = 14 ∨ j = 15 ∨ j = 17 → τ.1 63 j = σ.1 63 j) (e60 : τ.1 60 = σ.1 60) (e61 : τ.1 61 = σ.1 61) (e77 : τ.1 77 = σ.1 77) : dfB τ := by
  unfold dfB
  rw [e0, e63 14 (by decide), e63 15 (by decide), e63 17 (by decide), e60, e61, e77]
  exact h
theorem unq_of {σ τ : ga_S} (h : unq σ) (k : ∀ y : Int, 0 ≤ y → y < 80 → prtd τ y → prtd σ y ∧ τ.1 64 y = σ.1 64 y) : unq τ := by
  refine ⟨fun x y x1 x2 y1 y2 a b e => ?_, fun x y x1 x2 y1 y2 a b e => ?_⟩
  · have p := k x x1 (by omega) a
    have q := k y y1 (by omega) b
    rw [p.2, q.2] at e
    exact h.1 x y x1 x2 y1 y2 p.1 q.1 e
  · have p := k (40 + x) (by omega) (by omega) a
    have q := k (40 + y) (by omega) (by omega) b
    rw [p.2, q.2] at e
    exact h.2 x y x1 x2 y1 y2 p.1 q.1 e
theorem SD_net {i : Int} {cnt port kind gone pins cnt2 : Int → Int} {sizes : Int → UInt64} {σ τ : ga_S} {N D : Nat} (hN : N < 40) (e0 : cnt2 0 = (N + 1 : Nat)) (e3 : cnt2 3 = cnt 3) (p65 : τ.1 65 i = (N + 1 : Nat)) (p70 : τ.1 70 i = σ.1 70 i) (q64 : ∀ n : Int, 0 ≤ n → n < 40 → τ.1 64 (40 * i + n) = if n = N then -1 else σ.1 64 (40 * i + n)) (q : ∀ d : Int, 0 ≤ d → d < 30 → τ.1 66 (30 * i + d) = σ.1 66 (30 * i + d) ∧ τ.1 68 (30 * i + d) = σ.1 68 (30 * i + d) ∧ τ.2 67 (30 * i + d) = σ.2 67 (30 * i + d)) (q69 : ∀ j : Int, 0 ≤ j → j < 120 → τ.1 69 (120 * i + j) = σ.1 69 (120 * i + j)) (h : SD i cnt port kind gone pins sizes σ N D) : SD i cnt2 port kind gone pins sizes τ (N + 1) D := by
  obtain ⟨⟨⟨k1, k2, k3, k4, k5, k6, k7⟩, a2, a3, a4, a5, a6⟩, b, c, d, e⟩ := h
  refine ⟨⟨⟨e0, by omega, by rw [e3]; exact k3, k4, k5, k6, fun j j1 j2 => by have := k7 j j1 j2; omega⟩, p65, by rw [p70]; exact a3, fun n n1 n2 => ?_, fun d d1 d2 => ?_, fun j j1 j2 => by rw [q69 j j1 (by omega)]; exact a6 j j1 j2⟩, fun n n1 n2 => b n (by omega) n2, c, d, finS_cg (fun d d1 d2 => ⟨(q d d1 d2).2.1, (q d d1 d2).2.2⟩) k4 e⟩
  · rw [q64 n n1 (by omega)]
    split
    · rename_i w
      exact b n (by omega) (by omega)
    · exact a4 n n1 (by omega)
  · have k := q d d1 (by omega)
    rw [k.1, k.2.1, k.2.2]
    exact a5 d d1 d2
theorem Inv_net_2 {σ τ : ga_S} {N D M E : Nat} (h : Inv σ N D M E) (h40 : N < 40) (hτ : τ = nSt (outS (stI σ 2 (ga_up (σ.1 2) 0 (σ.1 2 0 + 1))) (σ.1 2 0)) 0) : Inv τ (N+1) D M E := by
  have e65 : τ.1 65 = ga_up (σ.1 65) 0 (σ.1 65 0 + 1) := by rw [hτ]; rfl
  have e64 : τ.1 64 = ga_up (σ.1 64) (40 * 0 + σ.1 65 0) (-1) := by rw [hτ]; rfl
  have e2 : τ.1 2 = ga_up (σ.1 2) 0 (σ.1 2 0 + 1) := by rw [hτ]; rfl
  have f2 : τ.2 = σ.2 := by rw [hτ]; rfl
  have e63 : ∀ j : Int, j = 14 ∨ j = 15 ∨ j = 17 ∨ j = 18 → τ.1 63 j = σ.1 63 j := fun j hj => by rw [hτ]; exact cd0_j (σ := outS (stI σ 2 (ga_up (σ.1 2) 0 (σ.1 2 0 + 1))) (σ.1 2 0)) (by omega)
  have ex : ∀ c, c ∉ [2, 63, 64, 65, 88] → τ.1 c = σ.1 c := by
    rw [hτ]
    exact (exc_st (exc_st (exc_st (exc_st (exc_st exc_r (by decide)) (by decide)) (by decide)) (by decide)) (by decide)).1
  clear hτ
  obtain ⟨⟨a1, a2⟩, ⟨b1, b2, b3⟩, ⟨c1, c2, c3, c4⟩, df, k⟩ := h
  have hD9 := a1.1.1.2.2.2.1
  have hE9 := a2.1.1.2.2.2.1
  have hh0 : σ.1 2 0 = N := by first | exact a1.1.1.1 | exact a2.1.1.1
  have h65 : σ.1 65 0 = N := by first | exact a1.1.2.1 | exact a2.1.2.1
  rw [h65] at e64 e65
  rw [hh0] at e2
  refine ⟨?_, ⟨by unfold agG; rw [ex 17 (by decide), ex 71 (by decide)]; exact b1, by unfold agH; rw [f2]; exact b2, by unfold shB; rw [f2]; exact b3⟩, ⟨by rw [ex 66 (by decide)]; exact c1, by rw [ex 69 (by decide)]; exact c2, fun y y1 y2 => ?_, unq_of c4 fun y y1 y2 hp => ?_⟩, dfB_keep df (ex 0 (by decide)) (fun j hj => e63 j (by omega)) (ex 60 (by decide)) (ex 61 (by decide)) (ex 77 (by decide)), kpB_keep k (by omega) (by omega) (by omega) (by omega) (ex 55 (by decide)) (e63 18 (by decide)) (ex 56 (by decide)) (ex 57 (by decide)) (ex 58 (by decide)) (ex 59 (by decide)) (fun _ d _ _ => by rw [ex 78 (by decide)]) (ex 79 (by decide)) (fun _ _ => by rw [ex 66 (by decide)]) hE9 hD9⟩
  · have hs : SD 0 (τ.1 2) (τ.1 3) (τ.1 5) (τ.1 7) (τ.1 8) (τ.2 6) τ (N + 1) D := by
      rw [ex 3 (by decide), ex 5 (by decide), ex 7 (by decide), ex 8 (by decide), f2]
      refine SD_net (σ := σ) h40 (by rw [e2, ga_up_at]; omega) (by rw [e2, ga_up_ne _ _ (by decide)]) (by rw [e65, ga_up_at]; omega) (by rw [ex 70 (by decide)]) (fun n n1 n2 => ?_) (fun d d1 d2 => by rw [ex 66 (by decide), ex 68 (by decide), f2]; exact ⟨rfl, rfl, rfl⟩) (fun j j1 j2 => by rw [ex 69 (by decide)]) (by first | exact a1 | exact a2)
      rw [e64]
      unfold ga_up
      by_cases q : n = N
      · rw [if_pos (by omega), if_pos q]
      · rw [if_neg (by omega), if_neg q]
    have ho : SD 1 (τ.1 9) (τ.1 10) (τ.1 12) (τ.1 14) (τ.1 15) (τ.2 13) τ M E := by
      refine SD_keep (σ := σ) (ex 9 (by decide)) (ex 10 (by decide)) (ex 12 (by decide)) (ex 14 (by decide)) (ex 15 (by decide)) (by rw [f2]) (by rw [e65, ga_up_ne _ _ (by decide)]) (by rw [ex 70 (by decide)]) (fun n n1 n2 => ?_) (fun d d1 d2 => by rw [ex 66 (by decide), ex 68 (by decide), f2]; exact ⟨rfl, rfl, rfl⟩) (fun j j1 j2 => by rw [ex 69 (by decide)]) (by first | exact a1 | exact a2)
      rw [e64, ga_up_ne _ _ (by omega)]
    first | exact ⟨hs, ho⟩ | exact ⟨ho, hs⟩
  · rw [e64]
    exact ga_up_in (P := fun v => -1 ≤ v) (by decide) (c3 y y1 y2)
  · obtain ⟨p1, p2⟩ := hp
    rw [e64] at p2 ⊢
    rw [e65] at p1
    by_cases q : y = 40 * 0 + N
    · rw [q, ga_up_at] at p2
      exact absurd rfl p2
    · rw [ga_up_ne _ _ q] at p2 ⊢
      refine ⟨⟨?_, p2⟩, rfl⟩
      by_cases q2 : y / 40 = 0
      · rw [q2, ga_up_at] at p1
        rw [q2, h65]
        omega
      · rw [ga_up_ne _ _ q2] at p1
        exact p1
theorem Inv_net_9 {σ τ : ga_S} {N D M E : Nat} (h : Inv σ N D M E) (h40 : M < 40) (hτ : τ = nSt (outS (stI σ 9 (ga_up (σ.1 9) 0 (σ.1 9 0 + 1))) (σ.1 9 0)) 1) : Inv τ N D (M+1) E := by
  have e65 : τ.1 65 = ga_up (σ.1 65) 1 (σ.1 65 1 + 1) := by rw [hτ]; rfl
  have e64 : τ.1 64 = ga_up (σ.1 64) (40 * 1 + σ.1 65 1) (-1) := by rw [hτ]; rfl
  have e9 : τ.1 9 = ga_up (σ.1 9) 0 (σ.1 9 0 + 1) := by rw [hτ]; rfl
  have f2 : τ.2 = σ.2 := by rw [hτ]; rfl
  have e63 : ∀ j : Int, j = 14 ∨ j = 15 ∨ j = 17 ∨ j = 18 → τ.1 63 j = σ.1 63 j := fun j hj => by rw [hτ]; exact cd0_j (σ := outS (stI σ 9 (ga_up (σ.1 9) 0 (σ.1 9 0 + 1))) (σ.1 9 0)) (by omega)
  have ex : ∀ c, c ∉ [9, 63, 64, 65, 88] → τ.1 c = σ.1 c := by
    rw [hτ]
    exact (exc_st (exc_st (exc_st (exc_st (exc_st exc_r (by decide)) (by decide)) (by decide)) (by decide)) (by decide)).1
  clear hτ
  obtain ⟨⟨a1, a2⟩, ⟨b1, b2, b3⟩, ⟨c1, c2, c3, c4⟩, df, k⟩ := h
  have hD9 := a1.1.1.2.2.2.1
  have hE9 := a2.1.1.2.2.2.1
  have hh0 : σ.1 9 0 = M := by first | exact a1.1.1.1 | exact a2.1.1.1
  have h65 : σ.1 65 1 = M := by first | exact a1.1.2.1 | exact a2.1.2.1
  rw [h65] at e64 e65
  rw [hh0] at e9
  refine ⟨?_, ⟨by unfold agG; rw [ex 17 (by decide), ex 71 (by decide)]; exact b1, by unfold agH; rw [f2]; exact b2, by unfold shB; rw [f2]; exact b3⟩, ⟨by rw [ex 66 (by decide)]; exact c1, by rw [ex 69 (by decide)]; exact c2, fun y y1 y2 => ?_, unq_of c4 fun y y1 y2 hp => ?_⟩, dfB_keep df (ex 0 (by decide)) (fun j hj => e63 j (by omega)) (ex 60 (by decide)) (ex 61 (by decide)) (ex 77 (by decide)), kpB_keep k (by omega) (by omega) (by omega) (by omega) (ex 55 (by decide)) (e63 18 (by decide)) (ex 56 (by decide)) (ex 57 (by decide)) (ex 58 (by decide)) (ex 59 (by decide)) (fun _ d _ _ => by rw [ex 78 (by decide)]) (ex 79 (by decide)) (fun _ _ => by rw [ex 66 (by decide)]) hE9 hD9⟩
  · have hs : SD 1 (τ.1 9) (τ.1 10) (τ.1 12) (τ.1 14) (τ.1 15) (τ.2 13) τ (M + 1) E := by
      rw [ex 10 (by decide), ex 12 (by decide), ex 14 (by decide), ex 15 (by decide), f2]
      refine SD_net (σ := σ) h40 (by rw [e9, ga_up_at]; omega) (by rw [e9, ga_up_ne _ _ (by decide)]) (by rw [e65, ga_up_at]; omega) (by rw [ex 70 (by decide)]) (fun n n1 n2 => ?_) (fun d d1 d2 => by rw [ex 66 (by decide), ex 68 (by decide), f2]; exact ⟨rfl, rfl, rfl⟩) (fun j j1 j2 => by rw [ex 69 (by decide)]) (by first | exact a1 | exact a2)
      rw [e64]
      unfold ga_up
      by_cases q : n = M
      · rw [if_pos (by omega), if_pos q]
      · rw [if_neg (by omega), if_neg q]
    have ho : SD 0 (τ.1 2) (τ.1 3) (τ.1 5) (τ.1 7) (τ.1 8) (τ.2 6) τ N D := by
      refine SD_keep (σ := σ) (ex 2 (by decide)) (ex 3 (by decide)) (ex 5 (by decide)) (ex 7 (by decide)) (ex 8 (by decide)) (by rw [f2]) (by rw [e65, ga_up_ne _ _ (by decide)]) (by rw [ex 70 (by decide)]) (fun n n1 n2 => ?_) (fun d d1 d2 => by rw [ex 66 (by decide), ex 68 (by decide), f2]; exact ⟨rfl, rfl, rfl⟩) (fun j j1 j2 => by rw [ex 69 (by decide)]) (by first | exact a1 | exact a2)
      rw [e64, ga_up_ne _ _ (by omega)]
    first | exact ⟨hs, ho⟩ | exact ⟨ho, hs⟩
  · rw [e64]
    exact ga_up_in (P := fun v => -1 ≤ v) (by decide) (c3 y y1 y2)
  · obtain ⟨p1, p2⟩ := hp
    rw [e64] at p2 ⊢
    rw [e65] at p1
    by_cases q : y = 40 * 1 + M
    · rw [q, ga_up_at] at p2
      exact absurd rfl p2
    · rw [ga_up_ne _ _ q] at p2 ⊢
      refine ⟨⟨?_, p2⟩, rfl⟩
      by_cases q2 : y / 40 = 1
      · rw [q2, ga_up_at] at p1
        rw [q2, h65]
        omega
      · rw [ga_up_ne _ _ q2] at p1
        exact p1
theorem ST_net (s y : Int) {σ : ga_S} (hI : IvO σ) : STEP (fun _ => True) mX10_net mX11_net (x13 σ) [Vi s, Vi y] σ := by
  obtain ⟨N, D, M, E, h⟩ := id hI
  by_cases hx : s < 0 ∨ 1 < s
  · refine STEP_of (fun _ _ => False) (fun c => c = 1) (by decide) (by decide) (by decide) (T_X10_net_X s y σ hx) (fun _ _ z => z.elim) (fun E h z => ⟨Or.inl ⟨z.1, rfl⟩, z.2⟩) (fun _ _ z => z.elim) (fun c hc => ⟨_, by decide, (T_X11_net s y σ (fun w => by omega)).mono (fun v h2 w => ?_) (fun _ _ z => z)⟩)
    subst hc
    have n1 : nCo σ s y = 1 := if_pos (by omega)
    rcases w with ⟨w, _⟩ | ⟨_, w2, w3⟩
    · rw [n1] at w
      exact absurd w (by decide)
    · rw [n1] at w3
      exact REND_bad (by decide) hI w2 w3
  have T2 : s = 0 → STEP (fun _ => True) mX10_net mX11_net (x13 σ) [Vi s, Vi y] σ := by
    intro hsi
    subst hsi
    have h0 : σ.1 2 0 = N := h.1.1.1.1.1
    have h1 : N ≤ 40 := h.1.1.1.1.2.1
    have h65 : σ.1 65 0 = N := h.1.1.1.2.1
    refine STEP_of (fun a σ1 => (σ.1 2 0 < 40 ∧ 0 ≤ y) ∧ a = σ.1 2 0 ∧ σ1 = stI σ 2 (ga_up (σ.1 2) 0 (σ.1 2 0 + 1))) (fun c => (c = 2 ∧ σ.1 2 0 = 40) ∨ (c = 3 ∧ σ.1 2 0 < 40 ∧ y < 0)) (by decide) (by decide) (by decide) (T_X10_net_2 y σ (by omega) (by omega)) (fun v h2 w => ⟨_, _, ⟨w.1, rfl, rfl⟩, w.2⟩) (fun E h2 w => ⟨?_, w.2⟩) (fun a σ1 w => ⟨trivial, 1, by decide, ?_⟩) (fun c w => ⟨1, by decide, (T_X11_net 0 y σ (fun _ => by omega)).mono (fun v h2 w2 => ?_) (fun _ _ z => z)⟩)
    · rcases w.1 with ⟨q, r⟩ | ⟨q, r⟩
      · exact Or.inr (Or.inl ⟨q, Or.inl ⟨rfl, r⟩⟩)
      · exact Or.inr (Or.inr ⟨q, Or.inr ⟨rfl, r⟩⟩)
    · obtain ⟨⟨w1, w2⟩, wa, ws⟩ := w
      have k := T_X11_net 0 y (outS σ1 a) (fun _ => by rw [ws]; show 0 ≤ σ.1 65 0 ∧ σ.1 65 0 ≤ 40; omega)
      refine k.mono (fun v h2 w3 => ?_) (fun _ _ z => z)
      have n0 : nCo (outS σ1 a) 0 y = 0 := by
        rw [ws]
        unfold nCo
        rw [if_neg (by decide)]
        show (if σ.1 65 0 = 40 then (2 : Int) else if y < 0 then 3 else 0) = 0
        rw [if_neg (by omega), if_neg (by omega)]
      rcases w3 with ⟨_, w3, w4⟩ | ⟨w3, _⟩
      · subst wa ws
        exact ⟨_, _, (show σ.1 65 0 = σ.1 2 0 by omega), w3, w4, rfl, fun _ => (show σ.1 2 0 = σ.1 65 0 by omega), ⟨_, _, _, _, Inv_net_2 h (by omega) rfl⟩⟩
      · exact absurd n0 w3
    · have n0 : nCo σ 0 y = c := by
        unfold nCo
        rw [if_neg (by decide)]
        rcases w with ⟨q, r⟩ | ⟨q, r⟩
        · rw [if_pos (by omega), q]
        · rw [if_neg (by omega), if_pos (by omega), q]
      have c0 : c ≠ 0 := by omega
      rcases w2 with ⟨w2, _⟩ | ⟨_, w3, w4⟩
      · omega
      · rw [n0] at w4
        exact REND_bad c0 hI w3 w4
  have T9 : s = 1 → STEP (fun _ => True) mX10_net mX11_net (x13 σ) [Vi s, Vi y] σ := by
    intro hsi
    subst hsi
    have h0 : σ.1 9 0 = M := h.1.2.1.1.1
    have h1 : M ≤ 40 := h.1.2.1.1.2.1
    have h65 : σ.1 65 1 = M := h.1.2.1.2.1
    refine STEP_of (fun a σ1 => (σ.1 9 0 < 40 ∧ 0 ≤ y) ∧ a = σ.1 9 0 ∧ σ1 = stI σ 9 (ga_up (σ.1 9) 0 (σ.1 9 0 + 1))) (fun c => (c = 2 ∧ σ.1 9 0 = 40) ∨ (c = 3 ∧ σ.1 9 0 < 40 ∧ y < 0)) (by decide) (by decide) (by decide) (T_X10_net_9 y σ (by omega) (by omega)) (fun v h2 w => ⟨_, _, ⟨w.1, rfl, rfl⟩, w.2⟩) (fun E h2 w => ⟨?_, w.2⟩) (fun a σ1 w => ⟨trivial, 1, by decide, ?_⟩) (fun c w => ⟨1, by decide, (T_X11_net 1 y σ (fun _ => by omega)).mono (fun v h2 w2 => ?_) (fun _ _ z => z)⟩)
    · rcases w.1 with ⟨q, r⟩ | ⟨q, r⟩
      · exact Or.inr (Or.inl ⟨q, Or.inl ⟨rfl, r⟩⟩)
      · exact Or.inr (Or.inr ⟨q, Or.inr ⟨rfl, r⟩⟩)
    · obtain ⟨⟨w1, w2⟩, wa, ws⟩ := w
      have k := T_X11_net 1 y (outS σ1 a) (fun _ => by rw [ws]; show 0 ≤ σ.1 65 1 ∧ σ.1 65 1 ≤ 40; omega)
      refine k.mono (fun v h2 w3 => ?_) (fun _ _ z => z)
      have n0 : nCo (outS σ1 a) 1 y = 0 := by
        rw [ws]
        unfold nCo
        rw [if_neg (by decide)]
        show (if σ.1 65 1 = 40 then (2 : Int) else if y < 0 then 3 else 0) = 0
        rw [if_neg (by omega), if_neg (by omega)]
      rcases w3 with ⟨_, w3, w4⟩ | ⟨w3, _⟩
      · subst wa ws
        exact ⟨_, _, (show σ.1 65 1 = σ.1 9 0 by omega), w3, w4, rfl, fun _ => (show σ.1 9 0 = σ.1 65 1 by omega), ⟨_, _, _, _, Inv_net_9 h (by omega) rfl⟩⟩
      · exact absurd n0 w3
    · have n0 : nCo σ 1 y = c := by
        unfold nCo
        rw [if_neg (by decide)]
        rcases w with ⟨q, r⟩ | ⟨q, r⟩
        · rw [if_pos (by omega), q]
        · rw [if_neg (by omega), if_pos (by omega), q]
      have c0 : c ≠ 0 := by omega
      rcases w2 with ⟨w2, _⟩ | ⟨_, w3, w4⟩
      · omega
      · rw [n0] at w4
        exact REND_bad c0 hI w3 w4
  by_cases q : s = 0
  · exact T2 q
  · exact T9 (by omega)
