-- one call of both: pin, port
theorem SD_pin {i : Int} {cnt port kind gone pins pins2 : Int → Int} {sizes : Int → UInt64} {σ τ : ga_S} {N D : Nat} {j0 n : Int} (hj : 0 ≤ j0 ∧ j0 < 4 * D) (hn : -1 ≤ n ∧ n < N) (ep : pins2 = ga_up pins j0 n) (p65 : τ.1 65 i = σ.1 65 i) (p70 : τ.1 70 i = σ.1 70 i) (q64 : ∀ n : Int, 0 ≤ n → n < 40 → τ.1 64 (40 * i + n) = σ.1 64 (40 * i + n)) (q : ∀ d : Int, 0 ≤ d → d < 30 → τ.1 66 (30 * i + d) = σ.1 66 (30 * i + d) ∧ τ.1 68 (30 * i + d) = σ.1 68 (30 * i + d) ∧ τ.2 67 (30 * i + d) = σ.2 67 (30 * i + d)) (q69 : ∀ j : Int, 0 ≤ j → j < 120 → τ.1 69 (120 * i + j) = if j = j0 then n else σ.1 69 (120 * i + j)) (h : SD i cnt port kind gone pins sizes σ N D) : SD i cnt port kind gone pins2 sizes τ N D := by
  obtain ⟨⟨⟨k1, k2, k3, k4, k5, k6, k7⟩, a2, a3, a4, a5, a6⟩, b, c, d, e⟩ := h
  refine ⟨⟨⟨k1, k2, k3, k4, k5, k6, fun j j1 j2 => ?_⟩, by rw [p65]; exact a2, by rw [p70]; exact a3, fun n n1 n2 => by rw [q64 n n1 (by omega)]; exact a4 n n1 n2, fun x x1 x2 => ?_, fun j j1 j2 => ?_⟩, b, c, fun j j1 j2 => by rw [ep, ga_up_ne _ _ (by omega)]; exact d j j1 j2, finS_cg (fun d d1 d2 => ⟨(q d d1 d2).2.1, (q d d1 d2).2.2⟩) k4 e⟩
  · rw [ep]
    exact ga_up_in (P := fun v => -1 ≤ v ∧ v < (N : Int)) hn (k7 j j1 j2)
  · have k := q x x1 (by omega)
    rw [k.1, k.2.1, k.2.2]
    exact a5 x x1 x2
  · rw [q69 j j1 (by omega), ep]
    by_cases w : j = j0
    · rw [w, ga_up_at, if_pos rfl]
    · rw [ga_up_ne _ _ w, if_neg w]; exact a6 j j1 j2
theorem SD_port {i : Int} {cnt port kind gone pins port2 : Int → Int} {sizes : Int → UInt64} {σ τ : ga_S} {N D : Nat} {n0 y : Int} (hn : 0 ≤ n0 ∧ n0 < N) (ep : port2 = ga_up port n0 y) (p65 : τ.1 65 i = σ.1 65 i) (p70 : τ.1 70 i = σ.1 70 i) (q64 : ∀ n : Int, 0 ≤ n → n < 40 → τ.1 64 (40 * i + n) = if n = n0 then y else σ.1 64 (40 * i + n)) (q : ∀ d : Int, 0 ≤ d → d < 30 → τ.1 66 (30 * i + d) = σ.1 66 (30 * i + d) ∧ τ.1 68 (30 * i + d) = σ.1 68 (30 * i + d) ∧ τ.2 67 (30 * i + d) = σ.2 67 (30 * i + d)) (q69 : ∀ j : Int, 0 ≤ j → j < 120 → τ.1 69 (120 * i + j) = σ.1 69 (120 * i + j)) (h : SD i cnt port kind gone pins sizes σ N D) : SD i cnt port2 kind gone pins sizes τ N D := by
  obtain ⟨⟨⟨k1, k2, k3, k4, k5, k6, k7⟩, a2, a3, a4, a5, a6⟩, b, c, d, e⟩ := h
  refine ⟨⟨⟨k1, k2, k3, k4, k5, k6, k7⟩, by rw [p65]; exact a2, by rw [p70]; exact a3, fun n n1 n2 => ?_, fun x x1 x2 => ?_, fun j j1 j2 => by rw [q69 j j1 (by omega)]; exact a6 j j1 j2⟩, fun n n1 n2 => by rw [ep, ga_up_ne _ _ (by omega)]; exact b n n1 n2, c, d, finS_cg (fun d d1 d2 => ⟨(q d d1 d2).2.1, (q d d1 d2).2.2⟩) k4 e⟩
  · rw [q64 n n1 (by omega), ep]
    by_cases w : n = n0
    · rw [w, ga_up_at, if_pos rfl]
    · rw [ga_up_ne _ _ w, if_neg w]; exact a4 n n1 n2
  · have k := q x x1 (by omega)
    rw [k.1, k.2.1, k.2.2]
    exact a5 x x1 x2
theorem Inv_pin_2 {σ τ : ga_S} {N D M E : Nat} {d k n a : Int} (h : Inv σ N D M E) (hd : 0 ≤ d ∧ d < D) (hk : 0 ≤ k ∧ k < 4) (hn : -1 ≤ n ∧ n < N) (hτ : τ = piS (outS (stI σ 8 (ga_up (σ.1 8) (d * 4 + k) n)) a) 0 d k n) : Inv τ N D M E := by
  have e69 : τ.1 69 = ga_up (σ.1 69) (4 * (30 * 0 + d) + k) n := by rw [hτ]; rfl
  have ep : τ.1 8 = ga_up (σ.1 8) (d * 4 + k) n := by rw [hτ]; rfl
  have f2 : τ.2 = σ.2 := by rw [hτ]; rfl
  have e63 : ∀ j : Int, j = 14 ∨ j = 15 ∨ j = 17 ∨ j = 18 → τ.1 63 j = σ.1 63 j := fun j hj => by rw [hτ]; exact cd0_j (σ := outS (stI σ 8 (ga_up (σ.1 8) (d * 4 + k) n)) a) (by omega)
  have ex : ∀ c, c ∉ [8, 63, 69, 88] → τ.1 c = σ.1 c := by
    rw [hτ]
    exact (exc_st (exc_st (exc_st (exc_st exc_r (by decide)) (by decide)) (by decide)) (by decide)).1
  clear hτ
  obtain ⟨⟨a1, a2⟩, ⟨b1, b2, b3⟩, ⟨c1, c2, c3, c4⟩, df, k9⟩ := h
  have hD9 := a1.1.1.2.2.2.1
  have hE9 := a2.1.1.2.2.2.1
  have hN9 := a1.1.1.2.1
  have hM9 := a2.1.1.2.1
  refine ⟨?_, ⟨by unfold agG; rw [ex 17 (by decide), ex 71 (by decide)]; exact b1, by unfold agH; rw [f2]; exact b2, by unfold shB; rw [f2]; exact b3⟩, ⟨by rw [ex 66 (by decide)]; exact c1, fun x x1 x2 => by rw [e69]; exact ga_up_in (P := fun v => -1 ≤ v ∧ v < 40) (by omega) (c2 x x1 x2), by rw [ex 64 (by decide)]; exact c3, (cg_unq (ex 64 (by decide)) (ex 65 (by decide))).mpr c4⟩, dfB_keep df (ex 0 (by decide)) (fun j hj => e63 j (by omega)) (ex 60 (by decide)) (ex 61 (by decide)) (ex 77 (by decide)), kpB_keep k9 (by omega) (by omega) (by omega) (by omega) (ex 55 (by decide)) (e63 18 (by decide)) (ex 56 (by decide)) (ex 57 (by decide)) (ex 58 (by decide)) (ex 59 (by decide)) (fun _ d _ _ => by rw [ex 78 (by decide)]) (ex 79 (by decide)) (fun _ _ => by rw [ex 66 (by decide)]) hE9 hD9⟩
  have hs : SD 0 (τ.1 2) (τ.1 3) (τ.1 5) (τ.1 7) (τ.1 8) (τ.2 6) τ N D := by
    rw [ex 2 (by decide), ex 3 (by decide), ex 5 (by decide), ex 7 (by decide), f2]
    refine SD_pin (σ := σ) (j0 := d * 4 + k) (by omega) hn ep (by rw [ex 65 (by decide)]) (by rw [ex 70 (by decide)]) (fun n n1 n2 => by rw [ex 64 (by decide)]) (fun d d1 d2 => by rw [ex 66 (by decide), ex 68 (by decide), f2]; exact ⟨rfl, rfl, rfl⟩) (fun j j1 j2 => ?_) (by first | exact a1 | exact a2)
    rw [e69]
    by_cases w : j = d * 4 + k
    · rw [show 120 * 0 + j = 4 * (30 * 0 + d) + k by omega, ga_up_at, if_pos w]
    · rw [ga_up_ne _ _ (by omega), if_neg w]
  have ho : SD 1 (τ.1 9) (τ.1 10) (τ.1 12) (τ.1 14) (τ.1 15) (τ.2 13) τ M E := by
    refine SD_keep (σ := σ) (ex 9 (by decide)) (ex 10 (by decide)) (ex 12 (by decide)) (ex 14 (by decide)) (ex 15 (by decide)) (by rw [f2]) (by rw [ex 65 (by decide)]) (by rw [ex 70 (by decide)]) (fun n n1 n2 => by rw [ex 64 (by decide)]) (fun d d1 d2 => by rw [ex 66 (by decide), ex 68 (by decide), f2]; exact ⟨rfl, rfl, rfl⟩) (fun j j1 j2 => ?_) (by first | exact a1 | exact a2)
    rw [e69, ga_up_ne _ _ (by omega)]
  first | exact ⟨hs, ho⟩ | exact ⟨ho, hs⟩
theorem Inv_port_2 {σ τ : ga_S} {N D M E : Nat} {n y a : Int} (h : Inv σ N D M E) (hn : 0 ≤ n ∧ n < N) (hy : 0 ≤ y) (hu : ∀ m : Int, 0 ≤ m → m < N → m ≠ n → σ.1 64 (40 * 0 + m) ≠ y) (hτ : τ = poS (outS (stI σ 3 (ga_up (σ.1 3) n y)) a) 0 n y) : Inv τ N D M E := by
  have e64 : τ.1 64 = ga_up (σ.1 64) (40 * 0 + n) y := by rw [hτ]; rfl
  have ep : τ.1 3 = ga_up (σ.1 3) n y := by rw [hτ]; rfl
  have f2 : τ.2 = σ.2 := by rw [hτ]; rfl
  have e63 : ∀ j : Int, j = 14 ∨ j = 15 ∨ j = 17 ∨ j = 18 → τ.1 63 j = σ.1 63 j := fun j hj => by rw [hτ]; exact cd0_j (σ := outS (stI σ 3 (ga_up (σ.1 3) n y)) a) (by omega)
  have ex : ∀ c, c ∉ [3, 63, 64, 88] → τ.1 c = σ.1 c := by
    rw [hτ]
    exact (exc_st (exc_st (exc_st (exc_st exc_r (by decide)) (by decide)) (by decide)) (by decide)).1
  clear hτ
  obtain ⟨⟨a1, a2⟩, ⟨b1, b2, b3⟩, ⟨c1, c2, c3, c4⟩, df, k9⟩ := h
  have hD9 := a1.1.1.2.2.2.1
  have hE9 := a2.1.1.2.2.2.1
  have hN9 := a1.1.1.2.1
  have hM9 := a2.1.1.2.1
  have h65 : σ.1 65 0 = N := by first | exact a1.1.2.1 | exact a2.1.2.1
  refine ⟨?_, ⟨by unfold agG; rw [ex 17 (by decide), ex 71 (by decide)]; exact b1, by unfold agH; rw [f2]; exact b2, by unfold shB; rw [f2]; exact b3⟩, ⟨by rw [ex 66 (by decide)]; exact c1, by rw [ex 69 (by decide)]; exact c2, fun x x1 x2 => by rw [e64]; exact ga_up_in (P := fun v => -1 ≤ v) (by omega) (c3 x x1 x2), ?_⟩, dfB_keep df (ex 0 (by decide)) (fun j hj => e63 j (by omega)) (ex 60 (by decide)) (ex 61 (by decide)) (ex 77 (by decide)), kpB_keep k9 (by omega) (by omega) (by omega) (by omega) (ex 55 (by decide)) (e63 18 (by decide)) (ex 56 (by decide)) (ex 57 (by decide)) (ex 58 (by decide)) (ex 59 (by decide)) (fun _ d _ _ => by rw [ex 78 (by decide)]) (ex 79 (by decide)) (fun _ _ => by rw [ex 66 (by decide)]) hE9 hD9⟩
  · have hs : SD 0 (τ.1 2) (τ.1 3) (τ.1 5) (τ.1 7) (τ.1 8) (τ.2 6) τ N D := by
      rw [ex 2 (by decide), ex 5 (by decide), ex 7 (by decide), ex 8 (by decide), f2]
      refine SD_port (σ := σ) hn ep (by rw [ex 65 (by decide)]) (by rw [ex 70 (by decide)]) (fun m n1 n2 => ?_) (fun d d1 d2 => by rw [ex 66 (by decide), ex 68 (by decide), f2]; exact ⟨rfl, rfl, rfl⟩) (fun j j1 j2 => by rw [ex 69 (by decide)]) (by first | exact a1 | exact a2)
      rw [e64]
      by_cases w : m = n
      · rw [w, ga_up_at, if_pos rfl]
      · rw [ga_up_ne _ _ (by omega), if_neg w]
    have ho : SD 1 (τ.1 9) (τ.1 10) (τ.1 12) (τ.1 14) (τ.1 15) (τ.2 13) τ M E := by
      refine SD_keep (σ := σ) (ex 9 (by decide)) (ex 10 (by decide)) (ex 12 (by decide)) (ex 14 (by decide)) (ex 15 (by decide)) (by rw [f2]) (by rw [ex 65 (by decide)]) (by rw [ex 70 (by decide)]) (fun m n1 n2 => ?_) (fun d d1 d2 => by rw [ex 66 (by decide), ex 68 (by decide), f2]; exact ⟨rfl, rfl, rfl⟩) (fun j j1 j2 => by rw [ex 69 (by decide)]) (by first | exact a1 | exact a2)
      rw [e64, ga_up_ne _ _ (by omega)]
    first | exact ⟨hs, ho⟩ | exact ⟨ho, hs⟩
  · have cs : ∀ x z : Int, 0 ≤ x → x < 40 → 0 ≤ z → z < 40 → prtd τ (40 * 0 + x) → prtd τ (40 * 0 + z) → τ.1 64 (40 * 0 + x) = τ.1 64 (40 * 0 + z) → x = z := by
      intro x z x1 x2 z1 z2 px pz e
      have pr : ∀ w : Int, 0 ≤ w → w < 40 → prtd τ (40 * 0 + w) → w < N ∧ (w ≠ n → prtd σ (40 * 0 + w) ∧ τ.1 64 (40 * 0 + w) = σ.1 64 (40 * 0 + w)) := by
        intro w w1 w2 p
        obtain ⟨p1, p2⟩ := p
        rw [ex 65 (by decide), show (40 * 0 + w) / 40 = 0 by omega, show (40 * 0 + w) % 40 = w by omega, h65] at p1
        refine ⟨p1, fun wn => ?_⟩
        have e : τ.1 64 (40 * 0 + w) = σ.1 64 (40 * 0 + w) := by rw [e64, ga_up_ne _ _ (by omega)]
        rw [e] at p2
        exact ⟨⟨by rw [show (40 * 0 + w) / 40 = 0 by omega, show (40 * 0 + w) % 40 = w by omega, h65]; exact p1, p2⟩, e⟩
      have k1 := pr x x1 x2 px
      have k2 := pr z z1 z2 pz
      by_cases wx : x = n
      · by_cases wz : z = n
        · omega
        · rw [(k2.2 wz).2, wx, e64, ga_up_at] at e
          exact absurd e.symm (hu z z1 k2.1 wz)
      · by_cases wz : z = n
        · rw [(k1.2 wx).2, wz, e64, ga_up_at] at e
          exact absurd e (hu x x1 k1.1 wx)
        · rw [(k1.2 wx).2, (k2.2 wz).2] at e
          have u := c4
          first
          | exact u.2 x z x1 x2 z1 z2 (k1.2 wx).1 (k2.2 wz).1 e
          | (have q1 := (k1.2 wx).1
             have q2 := (k2.2 wz).1
             rw [show (40 : Int) * 0 + x = x by omega] at q1 e
             rw [show (40 : Int) * 0 + z = z by omega] at q2 e
             exact u.1 x z x1 x2 z1 z2 q1 q2 e)
    have co : ∀ x : Int, 0 ≤ x → x < 40 → prtd τ (40 * 1 + x) → prtd σ (40 * 1 + x) ∧ τ.1 64 (40 * 1 + x) = σ.1 64 (40 * 1 + x) := by
      intro x x1 x2 p
      obtain ⟨p1, p2⟩ := p
      have e : τ.1 64 (40 * 1 + x) = σ.1 64 (40 * 1 + x) := by rw [e64, ga_up_ne _ _ (by omega)]
      rw [e] at p2
      rw [ex 65 (by decide)] at p1
      exact ⟨⟨p1, p2⟩, e⟩
    have z0 : ∀ x : Int, 40 * 0 + x = x := fun x => by omega
    have z1 : ∀ x : Int, 40 * 1 + x = 40 + x := fun x => by omega
    simp only [z0, z1] at cs co
    first
    | exact ⟨cs, fun x y x1 x2 y1 y2 a b e => by rw [(co x x1 x2 a).2, (co y y1 y2 b).2] at e; exact c4.2 x y x1 x2 y1 y2 (co x x1 x2 a).1 (co y y1 y2 b).1 e⟩
    | exact ⟨fun x y x1 x2 y1 y2 a b e => by rw [(co x x1 x2 a).2, (co y y1 y2 b).2] at e; exact c4.1 x y x1 x2 y1 y2 (co x x1 x2 a).1 (co y y1 y2 b).1 e, cs⟩
theorem Inv_pin_9 {σ τ : ga_S} {N D M E : Nat} {d k n a : Int} (h : Inv σ N D M E) (hd : 0 ≤ d ∧ d < E) (hk : 0 ≤ k ∧ k < 4) (hn : -1 ≤ n ∧ n < M) (hτ : τ = piS (outS (stI σ 15 (ga_up (σ.1 15) (d * 4 + k) n)) a) 1 d k n) : Inv τ N D M E := by
  have e69 : τ.1 69 = ga_up (σ.1 69) (4 * (30 * 1 + d) + k) n := by rw [hτ]; rfl
  have ep : τ.1 15 = ga_up (σ.1 15) (d * 4 + k) n := by rw [hτ]; rfl
  have f2 : τ.2 = σ.2 := by rw [hτ]; rfl
  have e63 : ∀ j : Int, j = 14 ∨ j = 15 ∨ j = 17 ∨ j = 18 → τ.1 63 j = σ.1 63 j := fun j hj => by rw [hτ]; exact cd0_j (σ := outS (stI σ 15 (ga_up (σ.1 15) (d * 4 + k) n)) a) (by omega)
  have ex : ∀ c, c ∉ [15, 63, 69, 88] → τ.1 c = σ.1 c := by
    rw [hτ]
    exact (exc_st (exc_st (exc_st (exc_st exc_r (by decide)) (by decide)) (by decide)) (by decide)).1
  clear hτ
  obtain ⟨⟨a1, a2⟩, ⟨b1, b2, b3⟩, ⟨c1, c2, c3, c4⟩, df, k9⟩ := h
  have hD9 := a1.1.1.2.2.2.1
  have hE9 := a2.1.1.2.2.2.1
  have hN9 := a1.1.1.2.1
  have hM9 := a2.1.1.2.1
  refine ⟨?_, ⟨by unfold agG; rw [ex 17 (by decide), ex 71 (by decide)]; exact b1, by unfold agH; rw [f2]; exact b2, by unfold shB; rw [f2]; exact b3⟩, ⟨by rw [ex 66 (by decide)]; exact c1, fun x x1 x2 => by rw [e69]; exact ga_up_in (P := fun v => -1 ≤ v ∧ v < 40) (by omega) (c2 x x1 x2), by rw [ex 64 (by decide)]; exact c3, (cg_unq (ex 64 (by decide)) (ex 65 (by decide))).mpr c4⟩, dfB_keep df (ex 0 (by decide)) (fun j hj => e63 j (by omega)) (ex 60 (by decide)) (ex 61 (by decide)) (ex 77 (by decide)), kpB_keep k9 (by omega) (by omega) (by omega) (by omega) (ex 55 (by decide)) (e63 18 (by decide)) (ex 56 (by decide)) (ex 57 (by decide)) (ex 58 (by decide)) (ex 59 (by decide)) (fun _ d _ _ => by rw [ex 78 (by decide)]) (ex 79 (by decide)) (fun _ _ => by rw [ex 66 (by decide)]) hE9 hD9⟩
  have hs : SD 1 (τ.1 9) (τ.1 10) (τ.1 12) (τ.1 14) (τ.1 15) (τ.2 13) τ M E := by
    rw [ex 9 (by decide), ex 10 (by decide), ex 12 (by decide), ex 14 (by decide), f2]
    refine SD_pin (σ := σ) (j0 := d * 4 + k) (by omega) hn ep (by rw [ex 65 (by decide)]) (by rw [ex 70 (by decide)]) (fun n n1 n2 => by rw [ex 64 (by decide)]) (fun d d1 d2 => by rw [ex 66 (by decide), ex 68 (by decide), f2]; exact ⟨rfl, rfl, rfl⟩) (fun j j1 j2 => ?_) (by first | exact a1 | exact a2)
    rw [e69]
    by_cases w : j = d * 4 + k
    · rw [show 120 * 1 + j = 4 * (30 * 1 + d) + k by omega, ga_up_at, if_pos w]
    · rw [ga_up_ne _ _ (by omega), if_neg w]
  have ho : SD 0 (τ.1 2) (τ.1 3) (τ.1 5) (τ.1 7) (τ.1 8) (τ.2 6) τ N D := by
    refine SD_keep (σ := σ) (ex 2 (by decide)) (ex 3 (by decide)) (ex 5 (by decide)) (ex 7 (by decide)) (ex 8 (by decide)) (by rw [f2]) (by rw [ex 65 (by decide)]) (by rw [ex 70 (by decide)]) (fun n n1 n2 => by rw [ex 64 (by decide)]) (fun d d1 d2 => by rw [ex 66 (by decide), ex 68 (by decide), f2]; exact ⟨rfl, rfl, rfl⟩) (fun j j1 j2 => ?_) (by first | exact a1 | exact a2)
    rw [e69, ga_up_ne _ _ (by omega)]
  first | exact ⟨hs, ho⟩ | exact ⟨ho, hs⟩
theorem Inv_port_9 {σ τ : ga_S} {N D M E : Nat} {n y a : Int} (h : Inv σ N D M E) (hn : 0 ≤ n ∧ n < M) (hy : 0 ≤ y) (hu : ∀ m : Int, 0 ≤ m → m < M → m ≠ n → σ.1 64 (40 * 1 + m) ≠ y) (hτ : τ = poS (outS (stI σ 10 (ga_up (σ.1 10) n y)) a) 1 n y) : Inv τ N D M E := by
  have e64 : τ.1 64 = ga_up (σ.1 64) (40 * 1 + n) y := by rw [hτ]; rfl
  have ep : τ.1 10 = ga_up (σ.1 10) n y := by rw [hτ]; rfl
  have f2 : τ.2 = σ.2 := by rw [hτ]; rfl
  have e63 : ∀ j : Int, j = 14 ∨ j = 15 ∨ j = 17 ∨ j = 18 → τ.1 63 j = σ.1 63 j := fun j hj => by rw [hτ]; exact cd0_j (σ := outS (stI σ 10 (ga_up (σ.1 10) n y)) a) (by omega)
  have ex : ∀ c, c ∉ [10, 63, 64, 88] → τ.1 c = σ.1 c := by
    rw [hτ]
    exact (exc_st (exc_st (exc_st (exc_st exc_r (by decide)) (by decide)) (by decide)) (by decide)).1
  clear hτ
  obtain ⟨⟨a1, a2⟩, ⟨b1, b2, b3⟩, ⟨c1, c2, c3, c4⟩, df, k9⟩ := h
  have hD9 := a1.1.1.2.2.2.1
  have hE9 := a2.1.1.2.2.2.1
  have hN9 := a1.1.1.2.1
  have hM9 := a2.1.1.2.1
  have h65 : σ.1 65 1 = M := by first | exact a1.1.2.1 | exact a2.1.2.1
  refine ⟨?_, ⟨by unfold agG; rw [ex 17 (by decide), ex 71 (by decide)]; exact b1, by unfold agH; rw [f2]; exact b2, by unfold shB; rw [f2]; exact b3⟩, ⟨by rw [ex 66 (by decide)]; exact c1, by rw [ex 69 (by decide)]; exact c2, fun x x1 x2 => by rw [e64]; exact ga_up_in (P := fun v => -1 ≤ v) (by omega) (c3 x x1 x2), ?_⟩, dfB_keep df (ex 0 (by decide)) (fun j hj => e63 j (by omega)) (ex 60 (by decide)) (ex 61 (by decide)) (ex 77 (by decide)), kpB_keep k9 (by omega) (by omega) (by omega) (by omega) (ex 55 (by decide)) (e63 18 (by decide)) (ex 56 (by decide)) (ex 57 (by decide)) (ex 58 (by decide)) (ex 59 (by decide)) (fun _ d _ _ => by rw [ex 78 (by decide)]) (ex 79 (by decide)) (fun _ _ => by rw [ex 66 (by decide)]) hE9 hD9⟩
  · have hs : SD 1 (τ.1 9) (τ.1 10) (τ.1 12) (τ.1 14) (τ.1 15) (τ.2 13) τ M E := by
      rw [ex 9 (by decide), ex 12 (by decide), ex 14 (by decide), ex 15 (by decide), f2]
      refine SD_port (σ := σ) hn ep (by rw [ex 65 (by decide)]) (by rw [ex 70 (by decide)]) (fun m n1 n2 => ?_) (fun d d1 d2 => by rw [ex 66 (by decide), ex 68 (by decide), f2]; exact ⟨rfl, rfl, rfl⟩) (fun j j1 j2 => by rw [ex 69 (by decide)]) (by first | exact a1 | exact a2)
      rw [e64]
      by_cases w : m = n
      · rw [w, ga_up_at, if_pos rfl]
      · rw [ga_up_ne _ _ (by omega), if_neg w]
    have ho : SD 0 (τ.1 2) (τ.1 3) (τ.1 5) (τ.1 7) (τ.1 8) (τ.2 6) τ N D := by
      refine SD_keep (σ := σ) (ex 2 (by decide)) (ex 3 (by decide)) (ex 5 (by decide)) (ex 7 (by decide)) (ex 8 (by decide)) (by rw [f2]) (by rw [ex 65 (by decide)]) (by rw [ex 70 (by decide)]) (fun m n1 n2 => ?_) (fun d d1 d2 => by rw [ex 66 (by decide), ex 68 (by decide), f2]; exact ⟨rfl, rfl, rfl⟩) (fun j j1 j2 => by rw [ex 69 (by decide)]) (by first | exact a1 | exact a2)
      rw [e64, ga_up_ne _ _ (by omega)]
    first | exact ⟨hs, ho⟩ | exact ⟨ho, hs⟩
  · have cs : ∀ x z : Int, 0 ≤ x → x < 40 → 0 ≤ z → z < 40 → prtd τ (40 * 1 + x) → prtd τ (40 * 1 + z) → τ.1 64 (40 * 1 + x) = τ.1 64 (40 * 1 + z) → x = z := by
      intro x z x1 x2 z1 z2 px pz e
      have pr : ∀ w : Int, 0 ≤ w → w < 40 → prtd τ (40 * 1 + w) → w < M ∧ (w ≠ n → prtd σ (40 * 1 + w) ∧ τ.1 64 (40 * 1 + w) = σ.1 64 (40 * 1 + w)) := by
        intro w w1 w2 p
        obtain ⟨p1, p2⟩ := p
        rw [ex 65 (by decide), show (40 * 1 + w) / 40 = 1 by omega, show (40 * 1 + w) % 40 = w by omega, h65] at p1
        refine ⟨p1, fun wn => ?_⟩
        have e : τ.1 64 (40 * 1 + w) = σ.1 64 (40 * 1 + w) := by rw [e64, ga_up_ne _ _ (by omega)]
        rw [e] at p2
        exact ⟨⟨by rw [show (40 * 1 + w) / 40 = 1 by omega, show (40 * 1 + w) % 40 = w by omega, h65]; exact p1, p2⟩, e⟩
      have k1 := pr x x1 x2 px
      have k2 := pr z z1 z2 pz
      by_cases wx : x = n
      · by_cases wz : z = n
        · omega
        · rw [(k2.2 wz).2, wx, e64, ga_up_at] at e
          exact absurd e.symm (hu z z1 k2.1 wz)
      · by_cases wz : z = n
        · rw [(k1.2 wx).2, wz, e64, ga_up_at] at e
          exact absurd e (hu x x1 k1.1 wx)
        · rw [(k1.2 wx).2, (k2.2 wz).2] at e
          have u := c4
          first
          | exact u.2 x z x1 x2 z1 z2 (k1.2 wx).1 (k2.2 wz).1 e
          | (have q1 := (k1.2 wx).1
             have q2 := (k2.2 wz).1
             rw [show (40 : Int) * 0 + x = x by omega] at q1 e
             rw [show (40 : Int) * 0 + z = z by omega] at q2 e
             exact u.1 x z x1 x2 z1 z2 q1 q2 e)
    have co : ∀ x : Int, 0 ≤ x → x < 40 → prtd τ (40 * 0 + x) → prtd σ (40 * 0 + x) ∧ τ.1 64 (40 * 0 + x) = σ.1 64 (40 * 0 + x) := by
      intro x x1 x2 p
      obtain ⟨p1, p2⟩ := p
      have e : τ.1 64 (40 * 0 + x) = σ.1 64 (40 * 0 + x) := by rw [e64, ga_up_ne _ _ (by omega)]
      rw [e] at p2
      rw [ex 65 (by decide)] at p1
      exact ⟨⟨p1, p2⟩, e⟩
    have z0 : ∀ x : Int, 40 * 0 + x = x := fun x => by omega
    have z1 : ∀ x : Int, 40 * 1 + x = 40 + x := fun x => by omega
    simp only [z0, z1] at cs co
    first
    | exact ⟨cs, fun x y x1 x2 y1 y2 a b e => by rw [(co x x1 x2 a).2, (co y y1 y2 b).2] at e; exact c4.2 x y x1 x2 y1 y2 (co x x1 x2 a).1 (co y y1 y2 b).1 e⟩
    | exact ⟨fun x y x1 x2 y1 y2 a b e => by rw [(co x x1 x2 a).2, (co y y1 y2 b).2] at e; exact c4.1 x y x1 x2 y1 y2 (co x x1 x2 a).1 (co y y1 y2 b).1 e, cs⟩
theorem ST_pin (s d k n : Int) {σ : ga_S} (hI : IvO σ) : STEP (fun a => a = 0 ∨ a = 1) mX10_pin mX11_pin (x1I σ) [Vi s, Vi d, Vi k, Vi n] σ := by
  obtain ⟨N, D, M, E, h⟩ := id hI
  have B : ∀ c, c = 1 → ¬ piP σ s d k n → (s = 0 ∨ s = 1 → σ.1 70 s ≤ 30) → ∃ tR, tR ≤ 10 ∧ ga_Mt tR 0 0 mX11_pin [Vr 63, Vi s, Vi d, Vi k, Vi n] (HP σ) (REND c (fun _ => True)) ga_nox := fun c hc hp hb => ⟨_, by decide, (T_X11_pin s d k n σ hb).mono (fun v2 h2 w => by
    subst hc
    rcases w with ⟨w, _⟩ | ⟨_, w2, w3⟩
    · exact absurd w hp
    · exact REND_bad (by decide) hI w2 w3) (fun _ _ z => z)⟩
  by_cases hx : s < 0 ∨ 1 < s
  · exact STEP_of (fun _ _ => False) (fun c => c = 1) (by decide) (by decide) (by decide) (T_X10_pin_X s d k n σ hx) (fun _ _ z => z.elim) (fun E h z => ⟨⟨z.1, rfl⟩, z.2⟩) (fun _ _ z => z.elim) (fun c hc => B c hc (fun w => by have := w.1.1.1; omega) (fun w => by omega))
  have T2 : s = 0 → STEP (fun a => a = 0 ∨ a = 1) mX10_pin mX11_pin (x1I σ) [Vi s, Vi d, Vi k, Vi n] σ := by
    intro hsi
    subst hsi
    have h0 : σ.1 2 3 = D := h.1.1.1.1.2.2.1
    have h00 : σ.1 2 0 = N := h.1.1.1.1.1
    have h1 : D ≤ 30 := h.1.1.1.1.2.2.2.1
    have h65 : σ.1 65 0 = N := h.1.1.1.2.1
    have h70 : σ.1 70 0 = D := h.1.1.1.2.2.1
    have eq : ∀ τ : ga_S, τ.1 70 = σ.1 70 → τ.1 68 = σ.1 68 → τ.1 65 = σ.1 65 → (piP τ 0 d k n ↔ (((0 ≤ d ∧ d < σ.1 2 3) ∧ σ.1 7 d = 0) ∧ (0 ≤ k ∧ k < 4) ∧ (n = -1 ∨ (0 ≤ n ∧ n < σ.1 2 0)))) := by
      intro τ t1 t2 t3
      unfold piP
      rw [t1, t2, t3, h0, h00, h65, h70]
      constructor
      · intro w
        have := (h.1.1.1.2.2.2.2.1 d w.1.1.2.1 w.1.1.2.2).2.1
        exact ⟨⟨w.1.1.2, by rw [this]; exact w.1.2⟩, w.2.1, w.2.2.imp id (fun x => x.2)⟩
      · intro w
        have := (h.1.1.1.2.2.2.2.1 d w.1.1.1 w.1.1.2).2.1
        exact ⟨⟨⟨by decide, w.1.1⟩, by rw [← this]; exact w.1.2⟩, w.2.1, w.2.2.imp id (fun x => ⟨by decide, x⟩)⟩
    refine STEP_of (fun a σ1 => (((0 ≤ d ∧ d < σ.1 2 3) ∧ σ.1 7 d = 0) ∧ (0 ≤ k ∧ k < 4) ∧ (n = -1 ∨ (0 ≤ n ∧ n < σ.1 2 0))) ∧ a = tv (σ.1 8 (d * 4 + k) ≠ n) ∧ σ1 = stI σ 8 (ga_up (σ.1 8) (d * 4 + k) n)) (fun c => c = 1 ∧ ¬ (((0 ≤ d ∧ d < σ.1 2 3) ∧ σ.1 7 d = 0) ∧ (0 ≤ k ∧ k < 4) ∧ (n = -1 ∨ (0 ≤ n ∧ n < σ.1 2 0)))) (by decide) (by decide) (by decide) (T_X10_pin_2 d k n σ (by omega)) (fun v h2 w => ⟨_, _, ⟨w.1, rfl, rfl⟩, w.2⟩) (fun E h2 w => ⟨⟨w.2.1, rfl, w.1⟩, w.2.2⟩) (fun a σ1 w => ⟨by rw [w.2.1]; exact tv01, 2, by decide, ?_⟩) (fun c w => B c w.1 (fun z => w.2 ((eq σ rfl rfl rfl).mp z)) (fun _ => by omega))
    obtain ⟨w1, wa, ws⟩ := w
    have k9 := T_X11_pin 0 d k n (outS σ1 a) (fun _ => by rw [ws]; show σ.1 70 0 ≤ 30; omega)
    refine k9.mono (fun v2 h2 w3 => ?_) (fun _ _ z => z)
    have hp : piP (outS σ1 a) 0 d k n := (eq _ (by rw [ws]; rfl) (by rw [ws]; rfl) (by rw [ws]; rfl)).mpr w1
    have h6 := h.1.1.1.2.2.2.2.2 (d * 4 + k) (by omega) (by omega)
    have ea : tv (σ.1 69 (4 * (30 * 0 + d) + k) ≠ n) = a := by
      rw [wa, show 4 * (30 * 0 + d) + k = 120 * 0 + (d * 4 + k) by omega, ← h6]
    rcases w3 with ⟨_, w3, w4⟩ | ⟨w3, _⟩
    · subst ws
      exact ⟨_, _, ea, w3, w4, rfl, fun _ => ea.symm, ⟨_, _, _, _, Inv_pin_2 h (by omega) w1.2.1 (by omega) rfl⟩⟩
    · exact absurd hp w3
  have T9 : s = 1 → STEP (fun a => a = 0 ∨ a = 1) mX10_pin mX11_pin (x1I σ) [Vi s, Vi d, Vi k, Vi n] σ := by
    intro hsi
    subst hsi
    have h0 : σ.1 9 3 = E := h.1.2.1.1.2.2.1
    have h00 : σ.1 9 0 = M := h.1.2.1.1.1
    have h1 : E ≤ 30 := h.1.2.1.1.2.2.2.1
    have h65 : σ.1 65 1 = M := h.1.2.1.2.1
    have h70 : σ.1 70 1 = E := h.1.2.1.2.2.1
    have eq : ∀ τ : ga_S, τ.1 70 = σ.1 70 → τ.1 68 = σ.1 68 → τ.1 65 = σ.1 65 → (piP τ 1 d k n ↔ (((0 ≤ d ∧ d < σ.1 9 3) ∧ σ.1 14 d = 0) ∧ (0 ≤ k ∧ k < 4) ∧ (n = -1 ∨ (0 ≤ n ∧ n < σ.1 9 0)))) := by
      intro τ t1 t2 t3
      unfold piP
      rw [t1, t2, t3, h0, h00, h65, h70]
      constructor
      · intro w
        have := (h.1.2.1.2.2.2.2.1 d w.1.1.2.1 w.1.1.2.2).2.1
        exact ⟨⟨w.1.1.2, by rw [this]; exact w.1.2⟩, w.2.1, w.2.2.imp id (fun x => x.2)⟩
      · intro w
        have := (h.1.2.1.2.2.2.2.1 d w.1.1.1 w.1.1.2).2.1
        exact ⟨⟨⟨by decide, w.1.1⟩, by rw [← this]; exact w.1.2⟩, w.2.1, w.2.2.imp id (fun x => ⟨by decide, x⟩)⟩
    refine STEP_of (fun a σ1 => (((0 ≤ d ∧ d < σ.1 9 3) ∧ σ.1 14 d = 0) ∧ (0 ≤ k ∧ k < 4) ∧ (n = -1 ∨ (0 ≤ n ∧ n < σ.1 9 0))) ∧ a = tv (σ.1 15 (d * 4 + k) ≠ n) ∧ σ1 = stI σ 15 (ga_up (σ.1 15) (d * 4 + k) n)) (fun c => c = 1 ∧ ¬ (((0 ≤ d ∧ d < σ.1 9 3) ∧ σ.1 14 d = 0) ∧ (0 ≤ k ∧ k < 4) ∧ (n = -1 ∨ (0 ≤ n ∧ n < σ.1 9 0)))) (by decide) (by decide) (by decide) (T_X10_pin_9 d k n σ (by omega)) (fun v h2 w => ⟨_, _, ⟨w.1, rfl, rfl⟩, w.2⟩) (fun E h2 w => ⟨⟨w.2.1, rfl, w.1⟩, w.2.2⟩) (fun a σ1 w => ⟨by rw [w.2.1]; exact tv01, 2, by decide, ?_⟩) (fun c w => B c w.1 (fun z => w.2 ((eq σ rfl rfl rfl).mp z)) (fun _ => by omega))
    obtain ⟨w1, wa, ws⟩ := w
    have k9 := T_X11_pin 1 d k n (outS σ1 a) (fun _ => by rw [ws]; show σ.1 70 1 ≤ 30; omega)
    refine k9.mono (fun v2 h2 w3 => ?_) (fun _ _ z => z)
    have hp : piP (outS σ1 a) 1 d k n := (eq _ (by rw [ws]; rfl) (by rw [ws]; rfl) (by rw [ws]; rfl)).mpr w1
    have h6 := h.1.2.1.2.2.2.2.2 (d * 4 + k) (by omega) (by omega)
    have ea : tv (σ.1 69 (4 * (30 * 1 + d) + k) ≠ n) = a := by
      rw [wa, show 4 * (30 * 1 + d) + k = 120 * 1 + (d * 4 + k) by omega, ← h6]
    rcases w3 with ⟨_, w3, w4⟩ | ⟨w3, _⟩
    · subst ws
      exact ⟨_, _, ea, w3, w4, rfl, fun _ => ea.symm, ⟨_, _, _, _, Inv_pin_9 h (by omega) w1.2.1 (by omega) rfl⟩⟩
    · exact absurd hp w3
  by_cases q : s = 0
  · exact T2 q
  · exact T9 (by omega)
