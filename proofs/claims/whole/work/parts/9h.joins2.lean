-- joinings, on: the states stay alike
/-- sizes of side s are below a bound that its gone devices tell -/
def finS (s : Int) (ρ : ga_S) (D : Nat) : Prop := ∃ G : Nat, (G : Int) = sz (fun d => tv (¬ ρ.1 68 (30 * s + d) = 0)) D ∧ ∀ d : Int, 0 ≤ d → d < 30 → dLt (ρ.2 67 (30 * s + d)) (1043 + 2 * G)
/-- what a joining of side s leaves -/
def JI (s : Int) (ρ0 ρ : ga_S) (D : Nat) : Prop := (∀ c, c ≠ 68 → c ≠ 69 → ρ.1 c = ρ0.1 c) ∧ (∀ c, c ≠ 67 → ρ.2 c = ρ0.2 c) ∧ (∀ x : Int, x < 30 * s ∨ 30 * s + 30 ≤ x → ρ.1 68 x = ρ0.1 68 x ∧ ρ.2 67 x = ρ0.2 67 x) ∧ (∀ z : Int, z < 120 * s ∨ 120 * s + 120 ≤ z → ρ.1 69 z = ρ0.1 69 z) ∧ (∀ z : Int, 0 ≤ z → z < 240 → -1 ≤ ρ.1 69 z ∧ ρ.1 69 z < 40) ∧ finS s ρ D
theorem goneC {g g2 : Int → Prop} {D b : Nat} (hb : b < D) (h0 : ¬ g b) (h1 : g2 b) (h2 : ∀ d : Nat, d < D → d ≠ b → (g2 d ↔ g d)) : sz (fun d => tv (g2 d)) D = sz (fun d => tv (g d)) D + 1 := by
  have e : sz (fun d => tv (g2 d)) D = sz (fun d => tv (g d) + tv (True ∧ (b : Int) = d)) D := by
    apply sz_congr
    intro d hd
    by_cases w : d = b
    · subst w
      rw [tv1 h1, tvz h0, tv1 ⟨trivial, rfl⟩]; rfl
    · rw [tv_congr (h2 d hd w), tvz (p := True ∧ (b : Int) = d) (fun z => w (by have := z.2; omega)), Int.add_zero]
  rw [e, sz_add, sz_pick (by omega) (by omega), tv1 trivial]
theorem JI_jR {s r : Int} {ρ0 ρ : ga_S} {N D a b : Nat} (hs : s = 0 ∨ s = 1) (hN : N ≤ 40) (hD : D ≤ 30) (h : JI s ρ0 ρ D) (hf : FstP (CR s r N ρ) D a b) (hr : r = 0 ∨ r = 1) : JI s ρ0 (jR s r N ρ a b) D := by
  obtain ⟨i1, i2, i3, i4, i5, G, g1, g2⟩ := h
  obtain ⟨f1, f2, f3, _⟩ := hf
  have gb : ρ.1 68 (30 * s + b) = 0 := f3.1.2.1
  have G30 : sz (fun d => tv (¬ ρ.1 68 (30 * s + d) = 0)) D ≤ D := (sz_b (f := fun d => tv (¬ ρ.1 68 (30 * s + d) = 0)) (fun _ => tv_le)).2
  have GC : ((G + 1 : Nat) : Int) = sz (fun d => tv (¬ ga_up (ρ.1 68) (30 * s + b) 1 (30 * s + d) = 0)) D := by
    rw [goneC (g := fun d => ¬ ρ.1 68 (30 * s + d) = 0) (g2 := fun d => ¬ ga_up (ρ.1 68) (30 * s + b) 1 (30 * s + d) = 0) f2 (fun w => w gb) (by rw [ga_up_at]; decide) (fun d hd hne => by rw [ga_up_ne _ _ (by omega)]), ← g1]
    rfl
  have za := g2 a (by omega) (by omega)
  have zb := g2 b (by omega) (by omega)
  have up : ∀ x : UInt64, dLt x (1043 + 2 * G) → dLt x (1043 + 2 * (G + 1)) := fun x hx => Nat.lt_of_lt_of_le hx (Nat.mul_le_mul_right _ (by omega))
  have k1 : 1043 + 2 * G + 2 ≤ 2047 := by omega
  have k2 : 1043 + 2 * G ≤ 2000 := by omega
  have k3 : 1 ≤ 1043 + 2 * G := by omega
  have k4 : 1043 + 2 * (G + 1) = 1043 + 2 * G + 2 := by omega
  unfold jR
  by_cases q : r = 0
  · rw [if_pos q]
    refine ⟨fun c c1 c2 => ?_, fun c c1 => ?_, fun x hx => ⟨?_, ?_⟩, i4, i5, G + 1, GC, fun d d1 d2 => ?_⟩
    · show (if c = 68 then _ else ρ.1 c) = _
      rw [if_neg c1]; exact i1 c c1 c2
    · show (if c = 67 then _ else ρ.2 c) = _
      rw [if_neg c1]; exact i2 c c1
    · show ga_up (ρ.1 68) (30 * s + b) 1 x = _
      rw [ga_up_ne _ _ (by omega)]; exact (i3 x hx).1
    · show ga_up (ρ.2 67) (30 * s + a) _ x = _
      rw [ga_up_ne _ _ (by omega)]; exact (i3 x hx).2
    · show dLt (ga_up (ρ.2 67) (30 * s + a) (FP.dadd (ρ.2 67 (30 * s + a)) (ρ.2 67 (30 * s + b))) (30 * s + d)) _
      by_cases w : d = a
      · rw [w, ga_up_at]
        rw [k4]
        exact add_lt za zb k1
      · rw [ga_up_ne _ _ (by omega)]
        exact up _ (g2 d d1 d2)
  · rw [if_neg q]
    have so : -1 ≤ serO s ρ b (coF s a b ρ N) ∧ serO s ρ b (coF s a b ρ N) < 40 := by
      unfold serO
      split
      · exact i5 _ (by omega) (by omega)
      · exact i5 _ (by omega) (by omega)
    have sk : serK s ρ a (coF s a b ρ N) = 0 ∨ serK s ρ a (coF s a b ρ N) = 1 := by unfold serK; split <;> simp
    refine ⟨fun c c1 c2 => ?_, fun c c1 => ?_, fun x hx => ⟨?_, ?_⟩, fun z hz => ?_, fun z z1 z2 => ?_, G + 1, GC, fun d d1 d2 => ?_⟩
    · show (if c = 68 then _ else if c = 69 then _ else ρ.1 c) = _
      rw [if_neg c1, if_neg c2]; exact i1 c c1 c2
    · show (if c = 67 then _ else ρ.2 c) = _
      rw [if_neg c1]; exact i2 c c1
    · show ga_up (ρ.1 68) (30 * s + b) 1 x = _
      rw [ga_up_ne _ _ (by omega)]; exact (i3 x hx).1
    · show ga_up (ρ.2 67) (30 * s + a) _ x = _
      rw [ga_up_ne _ _ (by omega)]; exact (i3 x hx).2
    · show ga_up (ρ.1 69) (120 * s + (a * 4 + serK s ρ a (coF s a b ρ N))) _ z = _
      rw [ga_up_ne _ _ (by omega)]; exact i4 z hz
    · exact ga_up_in (f := ρ.1 69) (P := fun x : Int => -1 ≤ x ∧ x < 40) so (i5 z z1 z2)
    · show dLt (ga_up (ρ.2 67) (30 * s + a) (serF (ρ.2 67 (30 * s + a)) (ρ.2 67 (30 * s + b))) (30 * s + d)) _
      by_cases w : d = a
      · rw [w, ga_up_at]
        rw [k4]
        exact ser_lt za zb k3 k2
      · rw [ga_up_ne _ _ (by omega)]
        exact up _ (g2 d d1 d2)
theorem CJ_CR_2 {τ ρ : ga_S} {N D : Nat} {r : Int} (ha : agS_2 τ ρ N D) (hg : agG (τ.1 17) ρ) (hr : r = 0 ∨ r = 1) (a b : Nat) (h1 : a < b) (h2 : b < D) : CJ_2 r (cntS_2 τ D) a b ↔ CR 0 r N ρ a b := by
  obtain ⟨hs, c65, c70, hpt, hdv, hpn⟩ := ha
  have hN2 := hs.2.1
  have hD2 := hs.2.2.2.1
  have da := hdv a (by omega) (by omega)
  have db := hdv b (by omega) (by omega)
  have P1 : ∀ d : Int, d = a ∨ d = b → ∀ k : Int, 0 ≤ k → k < 4 → τ.1 8 (d * 4 + k) = vP 0 ρ (d * 4 + k) := fun d hd k k1 k2 => hpn _ (by omega) (by omega)
  have P2 : ∀ d : Int, d = a ∨ d = b → τ.1 5 d = vK 0 ρ d := fun d hd => (hdv d (by omega) (by omega)).1
  have P3 : ∀ d : Int, d = a ∨ d = b → ∀ k : Int, 0 ≤ k → k < 4 → τ.1 17 (τ.1 5 d * 4 + k) = ρ.1 71 (vK 0 ρ d * 4 + k) := fun d hd k k1 k2 => by
    have h8 := hs.2.2.2.2.1 d (by omega) (by omega)
    rw [← P2 d hd]
    exact (hg _ (by omega) (by omega)).1
  show ((τ.1 7 a = 0 ∧ τ.1 7 b = 0 ∧ τ.1 5 a = τ.1 5 b) ∧ jP r (paF (τ.1 7) (τ.1 8) (τ.1 20) (4 * D)) (τ.1 3) (τ.1 8) (τ.1 17) (τ.1 5) a b) ↔ _
  unfold CR
  have e1 : (τ.1 7 a = 0 ∧ τ.1 7 b = 0 ∧ τ.1 5 a = τ.1 5 b) ↔ (vG 0 ρ a = 0 ∧ vG 0 ρ b = 0 ∧ vK 0 ρ a = vK 0 ρ b) := by
    rw [da.2.1, db.2.1, da.1, db.1]
  rw [e1]
  refine and_congr_right (fun hl => ?_)
  rcases hr with q | q
  · rw [jP0 q, parP_cg P1 P2 P3]
    exact ⟨fun w => Or.inl ⟨q, w⟩, fun w => w.elim (fun z => z.2) (fun z => by omega)⟩
  · rw [jP1 (by omega)]
    unfold serP
    rw [twoP_cg (P1 a (Or.inl rfl)) (P3 a (Or.inl rfl)), twoP_cg (P1 b (Or.inr rfl)) (P3 b (Or.inr rfl))]
    have BC := fun ta => bet_co (pa := paF (τ.1 7) (τ.1 8) (τ.1 20) (4 * D)) (port := τ.1 3) (pins := τ.1 8) (ρ := ρ) (s := 0) (N := N) c70 hpt hpn hs.2.2.2.2.2.2 (fun n n1 n2 => pa_all c70 (fun d d1 d2 => (hdv d d1 d2).2.1) hpn n1 (by omega)) (a := a) (b := b) (by omega) (by omega) (by omega) (by omega) (by omega) hl.1 hl.2.1 ta
    constructor
    · rintro ⟨t1, t2, t3⟩
      refine Or.inr ⟨q, ?_⟩
      unfold coF
      rw [tif1 ⟨t1, t2⟩, ← BC t1]
      exact t3
    · rintro (w | ⟨_, w⟩)
      · omega
      · unfold coF at w
        rcases Classical.em (twoP (vP 0 ρ) (ρ.1 71) (vK 0 ρ) a ∧ twoP (vP 0 ρ) (ρ.1 71) (vK 0 ρ) b) with z | z
        · rw [tif1 z, ← BC z.1] at w
          exact ⟨z.1, z.2, w⟩
        · rw [tif0 z] at w
          exact absurd rfl w
theorem bet_is_2 {τ ρ : ga_S} {N D : Nat} (ha : agS_2 τ ρ N D) (hg : agG (τ.1 17) ρ) {a b : Nat} (h1 : a < b) (h2 : b < D) (hC : CR 0 1 N ρ a b) : betF (paF (τ.1 7) (τ.1 8) (τ.1 20) (4 * D)) (τ.1 3) (τ.1 8) a b 2 = coF 0 a b ρ N := by
  obtain ⟨hs, c65, c70, hpt, hdv, hpn⟩ := ha
  have hN2 := hs.2.1
  obtain ⟨hl, hC⟩ := hC
  rcases hC with w | ⟨_, w⟩
  · omega
  · unfold coF at w ⊢
    rcases Classical.em (twoP (vP 0 ρ) (ρ.1 71) (vK 0 ρ) a ∧ twoP (vP 0 ρ) (ρ.1 71) (vK 0 ρ) b) with z | z
    · rw [tif1 z]
      exact bet_co (pa := paF (τ.1 7) (τ.1 8) (τ.1 20) (4 * D)) (port := τ.1 3) (pins := τ.1 8) (ρ := ρ) (s := 0) (N := N) c70 hpt hpn hs.2.2.2.2.2.2 (fun n n1 n2 => pa_all c70 (fun d d1 d2 => (hdv d d1 d2).2.1) hpn n1 (by omega)) (a := a) (b := b) (by omega) (by omega) (by omega) (by omega) (by omega) hl.1 hl.2.1 z.1
    · rw [tif0 z] at w
      exact absurd rfl w
theorem agS_jS_2 {τ ρ : ga_S} {N D a b : Nat} {r : Int} (ha : agS_2 τ ρ N D) (hg : agG (τ.1 17) ρ) (hr : r = 0 ∨ r = 1) (hf : FstP (CR 0 r N ρ) D a b) (hz : SzG (ρ.2 67 (30 * 0 + a)) ∧ SzG (ρ.2 67 (30 * 0 + b))) : agS_2 (jS_2 r (cntS_2 τ D) a b) (jR 0 r N ρ a b) N D := by
  have hf2 : FstP (CJ_2 r (cntS_2 τ D)) D a b := (FstP_cg (fun a b h1 h2 => CJ_CR_2 ha hg hr a b h1 h2)).mpr hf
  have ha2 := ha
  obtain ⟨hs, c65, c70, hpt, hdv, hpn⟩ := ha
  have so := sok_jS_2 (r := r) (τ := cntS_2 τ D) (show sok_2 (cntS_2 τ D) N D from hs) hf2
  obtain ⟨f1, f2, f3, _⟩ := hf
  have da := hdv a (by omega) (by omega)
  have db := hdv b (by omega) (by omega)
  refine ⟨so, ?_, ?_, fun n n1 n2 => ?_, fun d d1 d2 => ?_, fun j j1 j2 => ?_⟩
  · unfold jR; split <;> exact c65
  · unfold jR; split <;> exact c70
  · unfold jS_2 jR; split <;> exact hpt n n1 n2
  · have hd := hdv d d1 d2
    unfold jS_2 jR
    by_cases q : r = 0
    · rw [if_pos q, if_pos q]
      refine ⟨hd.1, ?_, ?_⟩
      · show ga_up (τ.1 7) (b : Int) 1 d = ga_up (ρ.1 68) (30 * 0 + b) 1 (30 * 0 + d)
        by_cases w : d = b
        · rw [w, ga_up_at, ga_up_at]
        · rw [ga_up_ne _ _ w, ga_up_ne _ _ (by omega)]; exact hd.2.1
      · show ga_up (τ.2 6) (a : Int) (FP.dadd (τ.2 6 a) (τ.2 6 b)) d = ga_up (ρ.2 67) (30 * 0 + a) (FP.dadd (ρ.2 67 (30 * 0 + a)) (ρ.2 67 (30 * 0 + b))) (30 * 0 + d)
        rw [da.2.2, db.2.2]
        by_cases w : d = a
        · rw [w, ga_up_at, ga_up_at]
        · rw [ga_up_ne _ _ w, ga_up_ne _ _ (by omega)]; exact hd.2.2
    · rw [if_neg q, if_neg q]
      refine ⟨hd.1, ?_, ?_⟩
      · show ga_up (τ.1 7) (b : Int) 1 d = ga_up (ρ.1 68) (30 * 0 + b) 1 (30 * 0 + d)
        by_cases w : d = b
        · rw [w, ga_up_at, ga_up_at]
        · rw [ga_up_ne _ _ w, ga_up_ne _ _ (by omega)]; exact hd.2.1
      · show ga_up (τ.2 6) (a : Int) (serC (τ.2 6 a) (τ.2 6 b)) d = ga_up (ρ.2 67) (30 * 0 + a) (serF (ρ.2 67 (30 * 0 + a)) (ρ.2 67 (30 * 0 + b))) (30 * 0 + d)
        rw [da.2.2, db.2.2, serC_F hz.1 hz.2]
        by_cases w : d = a
        · rw [w, ga_up_at, ga_up_at]
        · rw [ga_up_ne _ _ w, ga_up_ne _ _ (by omega)]; exact hd.2.2
  · unfold jS_2 jR
    by_cases q : r = 0
    · rw [if_pos q, if_pos q]
      exact hpn j j1 j2
    · rw [if_neg q, if_neg q]
      have r1 : r = 1 := by omega
      rw [r1] at f3
      have be := bet_is_2 ha2 hg f1 f2 f3
      have p0 := hpn ((a : Int) * 4 + 0) (by omega) (by omega)
      have q0 := hpn ((b : Int) * 4 + 0) (by omega) (by omega)
      have q1 := hpn ((b : Int) * 4 + 1) (by omega) (by omega)
      show ga_up (τ.1 8) ((a : Int) * 4 + (if τ.1 8 ((a : Int) * 4 + 0) = betF (paF (τ.1 7) (τ.1 8) (τ.1 20) (4 * D)) (τ.1 3) (τ.1 8) a b 2 then 0 else 1)) (τ.1 8 ((b : Int) * 4 + (if τ.1 8 ((b : Int) * 4 + 0) = betF (paF (τ.1 7) (τ.1 8) (τ.1 20) (4 * D)) (τ.1 3) (τ.1 8) a b 2 then 1 else 0))) j = ga_up (ρ.1 69) (120 * 0 + ((a : Int) * 4 + serK 0 ρ a (coF 0 a b ρ N))) (serO 0 ρ b (coF 0 a b ρ N)) (120 * 0 + j)
      rw [be]
      have ek : (if τ.1 8 ((a : Int) * 4 + 0) = coF 0 a b ρ N then (0 : Int) else 1) = serK 0 ρ a (coF 0 a b ρ N) := by
        unfold serK
        rw [p0]
      have eo : τ.1 8 ((b : Int) * 4 + (if τ.1 8 ((b : Int) * 4 + 0) = coF 0 a b ρ N then 1 else 0)) = serO 0 ρ b (coF 0 a b ρ N) := by
        unfold serO
        by_cases w : τ.1 8 ((b : Int) * 4 + 0) = coF 0 a b ρ N
        · rw [if_pos w, if_pos (by rw [← w]; exact q0.symm)]; exact q1
        · rw [if_neg w, if_neg (fun z => w (by rw [q0]; exact z))]; exact q0
      rw [ek, eo]
      by_cases w : j = (a : Int) * 4 + serK 0 ρ a (coF 0 a b ρ N)
      · rw [w, ga_up_at, ga_up_at]
      · rw [ga_up_ne _ _ w, ga_up_ne _ _ (by omega)]; exact hpn j j1 j2
theorem Jn_Jr_2 {r : Int} {N D : Nat} (hr : r = 0 ∨ r = 1) (hN : N ≤ 40) (hD : D ≤ 30) {ρ0 : ga_S} : ∀ (n : Nat) (τ ρ σ2 : ga_S), agS_2 τ ρ N D → agG (τ.1 17) ρ → JI 0 ρ0 ρ D → Jn_2 r D n τ σ2 → ∃ ρ2, Jr 0 r N D n ρ ρ2 ∧ agS_2 σ2 ρ2 N D ∧ JI 0 ρ0 ρ2 D
  | 0, τ, ρ, σ2, ha, hg, hI, hj => by
    obtain ⟨j1, j2⟩ := hj
    refine ⟨ρ, ⟨fun a b h1 h2 h3 => j1 a b h1 h2 ((CJ_CR_2 ha hg hr a b h1 h2).mpr h3), rfl⟩, ?_, hI⟩
    rw [j2]
    exact ha
  | n + 1, τ, ρ, σ2, ha, hg, hI, hj => by
    obtain ⟨a, b, j1, j2⟩ := hj
    have hf := (FstP_cg (fun a b h1 h2 => CJ_CR_2 ha hg hr a b h1 h2)).mp j1
    obtain ⟨G, g1, g2⟩ := hI.2.2.2.2.2
    have G30 : sz (fun d => tv (¬ ρ.1 68 (30 * 0 + d) = 0)) D ≤ D := (sz_b (f := fun d => tv (¬ ρ.1 68 (30 * 0 + d) = 0)) (fun _ => tv_le)).2
    have h9 := hf.1
    have h8 := hf.2.1
    have ha2 := agS_jS_2 ha hg hr hf ⟨(g2 a (by omega) (by omega)).good (by omega), (g2 b (by omega) (by omega)).good (by omega)⟩
    have hI2 := JI_jR (s := 0) (by decide) hN hD hI hf hr
    have e17 : (jS_2 r (cntS_2 τ D) a b).1 17 = τ.1 17 := by unfold jS_2; split <;> rfl
    have e71 : (jR 0 r N ρ a b).1 71 = ρ.1 71 := by unfold jR; split <;> rfl
    obtain ⟨ρ2, k1, k2, k3⟩ := Jn_Jr_2 hr hN hD n _ _ σ2 ha2 (by unfold agG; rw [e17, e71]; exact hg) hI2 j2
    exact ⟨ρ2, ⟨a, b, hf, k1⟩, k2, k3⟩
theorem Jn_x_2 {r : Int} {D : Nat} : ∀ (n : Nat) (τ σ2 : ga_S), Jn_2 r D n τ σ2 → (∀ c, c ≠ 20 → c ≠ 7 → c ≠ 8 → σ2.1 c = τ.1 c) ∧ ∀ c, c ≠ 6 → σ2.2 c = τ.2 c
  | 0, τ, σ2, hj => by
    rw [hj.2]
    exact ⟨fun c c1 _ _ => stI_ne τ _ c1, fun c _ => rfl⟩
  | n + 1, τ, σ2, hj => by
    obtain ⟨a, b, _, j2⟩ := hj
    have ih := Jn_x_2 n _ σ2 j2
    refine ⟨fun c c1 c2 c3 => ?_, fun c c1 => ?_⟩
    · rw [ih.1 c c1 c2 c3]
      unfold jS_2
      split
      · show (if c = 7 then _ else if c = 20 then _ else τ.1 c) = _
        rw [if_neg c2, if_neg c1]
      · show (if c = 7 then _ else if c = 8 then _ else if c = 20 then _ else τ.1 c) = _
        rw [if_neg c2, if_neg c3, if_neg c1]
    · rw [ih.2 c c1]
      unfold jS_2
      split
      · show (if c = 6 then _ else τ.2 c) = _
        rw [if_neg c1]
      · show (if c = 6 then _ else τ.2 c) = _
        rw [if_neg c1]
theorem Jn_ex_2 {r : Int} {D : Nat} : ∀ (m : Nat) (τ : ga_S), sz (fun d => tv (τ.1 7 d = 0)) D ≤ m → ∃ n σ2, Jn_2 r D n τ σ2 ∧ ((n : Int) ≤ sz (fun d => tv (τ.1 7 d = 0)) D) ∧ (1 ≤ sz (fun d => tv (τ.1 7 d = 0)) D → (n : Int) + 1 ≤ sz (fun d => tv (τ.1 7 d = 0)) D) := by
  have nn := fun τ : ga_S => sz_nn (f := fun d => tv (τ.1 7 d = 0)) (fun _ => tv_le.1) D
  intro m
  induction m with
  | zero =>
    intro τ hm
    have n0 := nn τ
    refine ⟨0, _, ⟨fun a b h1 h2 h3 => ?_, rfl⟩, by omega, by omega⟩
    have ga : τ.1 7 a = 0 := h3.1.1
    have := sz_ge1 (P := fun d => τ.1 7 d = 0) (n := D) (i := a) (by omega) ga
    omega
  | succ m ih =>
    intro τ hm
    have n0 := nn τ
    rcases Classical.em (∃ a b : Nat, a < b ∧ b < D ∧ CJ_2 r (cntS_2 τ D) a b) with w | w
    · obtain ⟨a, b, hf⟩ := FstP_ex w
      have f1 := hf.1
      have f2 := hf.2.1
      have ga : τ.1 7 a = 0 := hf.2.2.1.1.1
      have gb : τ.1 7 b = 0 := hf.2.2.1.1.2.1
      have e5 : (jS_2 r (cntS_2 τ D) a b).1 7 = ga_up (τ.1 7) b 1 := by unfold jS_2; split <;> rfl
      have LC : sz (fun d => tv (τ.1 7 d = 0)) D = sz (fun d => tv ((jS_2 r (cntS_2 τ D) a b).1 7 d = 0)) D + 1 := by
        rw [e5]
        exact goneC (g := fun d => ga_up (τ.1 7) b 1 d = 0) (g2 := fun d => τ.1 7 d = 0) f2 (by rw [ga_up_at]; decide) gb (fun d hd hne => by rw [ga_up_ne _ _ (by omega)])
      have l2 : 1 ≤ sz (fun d => tv ((jS_2 r (cntS_2 τ D) a b).1 7 d = 0)) D := by
        rw [e5]
        exact sz_ge1 (P := fun d => ga_up (τ.1 7) b 1 d = 0) (n := D) (i := a) (by omega) (by rw [ga_up_ne _ _ (by omega)]; exact ga)
      obtain ⟨n, σ2, k1, k2, k3⟩ := ih (jS_2 r (cntS_2 τ D) a b) (by omega)
      have := k3 l2
      exact ⟨n + 1, σ2, ⟨a, b, hf, k1⟩, by omega, fun _ => by omega⟩
    · exact ⟨0, _, ⟨fun a b h1 h2 h3 => w ⟨a, b, h1, h2, h3⟩, rfl⟩, by omega, fun h => by omega⟩
theorem CJ_CR_9 {τ ρ : ga_S} {N D : Nat} {r : Int} (ha : agS_9 τ ρ N D) (hg : agG (τ.1 17) ρ) (hr : r = 0 ∨ r = 1) (a b : Nat) (h1 : a < b) (h2 : b < D) : CJ_9 r (cntS_9 τ D) a b ↔ CR 1 r N ρ a b := by
  obtain ⟨hs, c65, c70, hpt, hdv, hpn⟩ := ha
  have hN2 := hs.2.1
  have hD2 := hs.2.2.2.1
  have da := hdv a (by omega) (by omega)
  have db := hdv b (by omega) (by omega)
  have P1 : ∀ d : Int, d = a ∨ d = b → ∀ k : Int, 0 ≤ k → k < 4 → τ.1 15 (d * 4 + k) = vP 1 ρ (d * 4 + k) := fun d hd k k1 k2 => hpn _ (by omega) (by omega)
  have P2 : ∀ d : Int, d = a ∨ d = b → τ.1 12 d = vK 1 ρ d := fun d hd => (hdv d (by omega) (by omega)).1
  have P3 : ∀ d : Int, d = a ∨ d = b → ∀ k : Int, 0 ≤ k → k < 4 → τ.1 17 (τ.1 12 d * 4 + k) = ρ.1 71 (vK 1 ρ d * 4 + k) := fun d hd k k1 k2 => by
    have h8 := hs.2.2.2.2.1 d (by omega) (by omega)
    rw [← P2 d hd]
    exact (hg _ (by omega) (by omega)).1
  show ((τ.1 14 a = 0 ∧ τ.1 14 b = 0 ∧ τ.1 12 a = τ.1 12 b) ∧ jP r (paF (τ.1 14) (τ.1 15) (τ.1 20) (4 * D)) (τ.1 10) (τ.1 15) (τ.1 17) (τ.1 12) a b) ↔ _
  unfold CR
  have e1 : (τ.1 14 a = 0 ∧ τ.1 14 b = 0 ∧ τ.1 12 a = τ.1 12 b) ↔ (vG 1 ρ a = 0 ∧ vG 1 ρ b = 0 ∧ vK 1 ρ a = vK 1 ρ b) := by
    rw [da.2.1, db.2.1, da.1, db.1]
  rw [e1]
  refine and_congr_right (fun hl => ?_)
  rcases hr with q | q
  · rw [jP0 q, parP_cg P1 P2 P3]
    exact ⟨fun w => Or.inl ⟨q, w⟩, fun w => w.elim (fun z => z.2) (fun z => by omega)⟩
  · rw [jP1 (by omega)]
    unfold serP
    rw [twoP_cg (P1 a (Or.inl rfl)) (P3 a (Or.inl rfl)), twoP_cg (P1 b (Or.inr rfl)) (P3 b (Or.inr rfl))]
    have BC := fun ta => bet_co (pa := paF (τ.1 14) (τ.1 15) (τ.1 20) (4 * D)) (port := τ.1 10) (pins := τ.1 15) (ρ := ρ) (s := 1) (N := N) c70 hpt hpn hs.2.2.2.2.2.2 (fun n n1 n2 => pa_all c70 (fun d d1 d2 => (hdv d d1 d2).2.1) hpn n1 (by omega)) (a := a) (b := b) (by omega) (by omega) (by omega) (by omega) (by omega) hl.1 hl.2.1 ta
    constructor
    · rintro ⟨t1, t2, t3⟩
      refine Or.inr ⟨q, ?_⟩
      unfold coF
      rw [tif1 ⟨t1, t2⟩, ← BC t1]
      exact t3
    · rintro (w | ⟨_, w⟩)
      · omega
      · unfold coF at w
        rcases Classical.em (twoP (vP 1 ρ) (ρ.1 71) (vK 1 ρ) a ∧ twoP (vP 1 ρ) (ρ.1 71) (vK 1 ρ) b) with z | z
        · rw [tif1 z, ← BC z.1] at w
          exact ⟨z.1, z.2, w⟩
        · rw [tif0 z] at w
          exact absurd rfl w
theorem bet_is_9 {τ ρ : ga_S} {N D : Nat} (ha : agS_9 τ ρ N D) (hg : agG (τ.1 17) ρ) {a b : Nat} (h1 : a < b) (h2 : b < D) (hC : CR 1 1 N ρ a b) : betF (paF (τ.1 14) (τ.1 15) (τ.1 20) (4 * D)) (τ.1 10) (τ.1 15) a b 2 = coF 1 a b ρ N := by
  obtain ⟨hs, c65, c70, hpt, hdv, hpn⟩ := ha
  have hN2 := hs.2.1
  obtain ⟨hl, hC⟩ := hC
  rcases hC with w | ⟨_, w⟩
  · omega
  · unfold coF at w ⊢
    rcases Classical.em (twoP (vP 1 ρ) (ρ.1 71) (vK 1 ρ) a ∧ twoP (vP 1 ρ) (ρ.1 71) (vK 1 ρ) b) with z | z
    · rw [tif1 z]
      exact bet_co (pa := paF (τ.1 14) (τ.1 15) (τ.1 20) (4 * D)) (port := τ.1 10) (pins := τ.1 15) (ρ := ρ) (s := 1) (N := N) c70 hpt hpn hs.2.2.2.2.2.2 (fun n n1 n2 => pa_all c70 (fun d d1 d2 => (hdv d d1 d2).2.1) hpn n1 (by omega)) (a := a) (b := b) (by omega) (by omega) (by omega) (by omega) (by omega) hl.1 hl.2.1 z.1
    · rw [tif0 z] at w
      exact absurd rfl w
theorem agS_jS_9 {τ ρ : ga_S} {N D a b : Nat} {r : Int} (ha : agS_9 τ ρ N D) (hg : agG (τ.1 17) ρ) (hr : r = 0 ∨ r = 1) (hf : FstP (CR 1 r N ρ) D a b) (hz : SzG (ρ.2 67 (30 * 1 + a)) ∧ SzG (ρ.2 67 (30 * 1 + b))) : agS_9 (jS_9 r (cntS_9 τ D) a b) (jR 1 r N ρ a b) N D := by
  have hf2 : FstP (CJ_9 r (cntS_9 τ D)) D a b := (FstP_cg (fun a b h1 h2 => CJ_CR_9 ha hg hr a b h1 h2)).mpr hf
  have ha2 := ha
  obtain ⟨hs, c65, c70, hpt, hdv, hpn⟩ := ha
  have so := sok_jS_9 (r := r) (τ := cntS_9 τ D) (show sok_9 (cntS_9 τ D) N D from hs) hf2
  obtain ⟨f1, f2, f3, _⟩ := hf
  have da := hdv a (by omega) (by omega)
  have db := hdv b (by omega) (by omega)
  refine ⟨so, ?_, ?_, fun n n1 n2 => ?_, fun d d1 d2 => ?_, fun j j1 j2 => ?_⟩
  · unfold jR; split <;> exact c65
  · unfold jR; split <;> exact c70
  · unfold jS_9 jR; split <;> exact hpt n n1 n2
  · have hd := hdv d d1 d2
    unfold jS_9 jR
    by_cases q : r = 0
    · rw [if_pos q, if_pos q]
      refine ⟨hd.1, ?_, ?_⟩
      · show ga_up (τ.1 14) (b : Int) 1 d = ga_up (ρ.1 68) (30 * 1 + b) 1 (30 * 1 + d)
        by_cases w : d = b
        · rw [w, ga_up_at, ga_up_at]
        · rw [ga_up_ne _ _ w, ga_up_ne _ _ (by omega)]; exact hd.2.1
      · show ga_up (τ.2 13) (a : Int) (FP.dadd (τ.2 13 a) (τ.2 13 b)) d = ga_up (ρ.2 67) (30 * 1 + a) (FP.dadd (ρ.2 67 (30 * 1 + a)) (ρ.2 67 (30 * 1 + b))) (30 * 1 + d)
        rw [da.2.2, db.2.2]
        by_cases w : d = a
        · rw [w, ga_up_at, ga_up_at]
        · rw [ga_up_ne _ _ w, ga_up_ne _ _ (by omega)]; exact hd.2.2
    · rw [if_neg q, if_neg q]
      refine ⟨hd.1, ?_, ?_⟩
      · show ga_up (τ.1 14) (b : Int) 1 d = ga_up (ρ.1 68) (30 * 1 + b) 1 (30 * 1 + d)
        by_cases w : d = b
        · rw [w, ga_up_at, ga_up_at]
        · rw [ga_up_ne _ _ w, ga_up_ne _ _ (by omega)]; exact hd.2.1
      · show ga_up (τ.2 13) (a : Int) (serC (τ.2 13 a) (τ.2 13 b)) d = ga_up (ρ.2 67) (30 * 1 + a) (serF (ρ.2 67 (30 * 1 + a)) (ρ.2 67 (30 * 1 + b))) (30 * 1 + d)
        rw [da.2.2, db.2.2, serC_F hz.1 hz.2]
        by_cases w : d = a
        · rw [w, ga_up_at, ga_up_at]
        · rw [ga_up_ne _ _ w, ga_up_ne _ _ (by omega)]; exact hd.2.2
  · unfold jS_9 jR
    by_cases q : r = 0
    · rw [if_pos q, if_pos q]
      exact hpn j j1 j2
    · rw [if_neg q, if_neg q]
      have r1 : r = 1 := by omega
      rw [r1] at f3
      have be := bet_is_9 ha2 hg f1 f2 f3
      have p0 := hpn ((a : Int) * 4 + 0) (by omega) (by omega)
      have q0 := hpn ((b : Int) * 4 + 0) (by omega) (by omega)
      have q1 := hpn ((b : Int) * 4 + 1) (by omega) (by omega)
      show ga_up (τ.1 15) ((a : Int) * 4 + (if τ.1 15 ((a : Int) * 4 + 0) = betF (paF (τ.1 14) (τ.1 15) (τ.1 20) (4 * D)) (τ.1 10) (τ.1 15) a b 2 then 0 else 1)) (τ.1 15 ((b : Int) * 4 + (if τ.1 15 ((b : Int) * 4 + 0) = betF (paF (τ.1 14) (τ.1 15) (τ.1 20) (4 * D)) (τ.1 10) (τ.1 15) a b 2 then 1 else 0))) j = ga_up (ρ.1 69) (120 * 1 + ((a : Int) * 4 + serK 1 ρ a (coF 1 a b ρ N))) (serO 1 ρ b (coF 1 a b ρ N)) (120 * 1 + j)
      rw [be]
      have ek : (if τ.1 15 ((a : Int) * 4 + 0) = coF 1 a b ρ N then (0 : Int) else 1) = serK 1 ρ a (coF 1 a b ρ N) := by
        unfold serK
        rw [p0]
      have eo : τ.1 15 ((b : Int) * 4 + (if τ.1 15 ((b : Int) * 4 + 0) = coF 1 a b ρ N then 1 else 0)) = serO 1 ρ b (coF 1 a b ρ N) := by
        unfold serO
        by_cases w : τ.1 15 ((b : Int) * 4 + 0) = coF 1 a b ρ N
        · rw [if_pos w, if_pos (by rw [← w]; exact q0.symm)]; exact q1
        · rw [if_neg w, if_neg (fun z => w (by rw [q0]; exact z))]; exact q0
      rw [ek, eo]
      by_cases w : j = (a : Int) * 4 + serK 1 ρ a (coF 1 a b ρ N)
      · rw [w, ga_up_at, ga_up_at]
      · rw [ga_up_ne _ _ w, ga_up_ne _ _ (by omega)]; exact hpn j j1 j2
theorem Jn_Jr_9 {r : Int} {N D : Nat} (hr : r = 0 ∨ r = 1) (hN : N ≤ 40) (hD : D ≤ 30) {ρ0 : ga_S} : ∀ (n : Nat) (τ ρ σ2 : ga_S), agS_9 τ ρ N D → agG (τ.1 17) ρ → JI 1 ρ0 ρ D → Jn_9 r D n τ σ2 → ∃ ρ2, Jr 1 r N D n ρ ρ2 ∧ agS_9 σ2 ρ2 N D ∧ JI 1 ρ0 ρ2 D
  | 0, τ, ρ, σ2, ha, hg, hI, hj => by
    obtain ⟨j1, j2⟩ := hj
    refine ⟨ρ, ⟨fun a b h1 h2 h3 => j1 a b h1 h2 ((CJ_CR_9 ha hg hr a b h1 h2).mpr h3), rfl⟩, ?_, hI⟩
    rw [j2]
    exact ha
  | n + 1, τ, ρ, σ2, ha, hg, hI, hj => by
    obtain ⟨a, b, j1, j2⟩ := hj
    have hf := (FstP_cg (fun a b h1 h2 => CJ_CR_9 ha hg hr a b h1 h2)).mp j1
    obtain ⟨G, g1, g2⟩ := hI.2.2.2.2.2
    have G30 : sz (fun d => tv (¬ ρ.1 68 (30 * 1 + d) = 0)) D ≤ D := (sz_b (f := fun d => tv (¬ ρ.1 68 (30 * 1 + d) = 0)) (fun _ => tv_le)).2
    have h9 := hf.1
    have h8 := hf.2.1
    have ha2 := agS_jS_9 ha hg hr hf ⟨(g2 a (by omega) (by omega)).good (by omega), (g2 b (by omega) (by omega)).good (by omega)⟩
    have hI2 := JI_jR (s := 1) (by decide) hN hD hI hf hr
    have e17 : (jS_9 r (cntS_9 τ D) a b).1 17 = τ.1 17 := by unfold jS_9; split <;> rfl
    have e71 : (jR 1 r N ρ a b).1 71 = ρ.1 71 := by unfold jR; split <;> rfl
    obtain ⟨ρ2, k1, k2, k3⟩ := Jn_Jr_9 hr hN hD n _ _ σ2 ha2 (by unfold agG; rw [e17, e71]; exact hg) hI2 j2
    exact ⟨ρ2, ⟨a, b, hf, k1⟩, k2, k3⟩
theorem Jn_x_9 {r : Int} {D : Nat} : ∀ (n : Nat) (τ σ2 : ga_S), Jn_9 r D n τ σ2 → (∀ c, c ≠ 20 → c ≠ 14 → c ≠ 15 → σ2.1 c = τ.1 c) ∧ ∀ c, c ≠ 13 → σ2.2 c = τ.2 c
  | 0, τ, σ2, hj => by
    rw [hj.2]
    exact ⟨fun c c1 _ _ => stI_ne τ _ c1, fun c _ => rfl⟩
  | n + 1, τ, σ2, hj => by
    obtain ⟨a, b, _, j2⟩ := hj
    have ih := Jn_x_9 n _ σ2 j2
    refine ⟨fun c c1 c2 c3 => ?_, fun c c1 => ?_⟩
    · rw [ih.1 c c1 c2 c3]
      unfold jS_9
      split
      · show (if c = 14 then _ else if c = 20 then _ else τ.1 c) = _
        rw [if_neg c2, if_neg c1]
      · show (if c = 14 then _ else if c = 15 then _ else if c = 20 then _ else τ.1 c) = _
        rw [if_neg c2, if_neg c3, if_neg c1]
    · rw [ih.2 c c1]
      unfold jS_9
      split
      · show (if c = 13 then _ else τ.2 c) = _
        rw [if_neg c1]
      · show (if c = 13 then _ else τ.2 c) = _
        rw [if_neg c1]
theorem Jn_ex_9 {r : Int} {D : Nat} : ∀ (m : Nat) (τ : ga_S), sz (fun d => tv (τ.1 14 d = 0)) D ≤ m → ∃ n σ2, Jn_9 r D n τ σ2 ∧ ((n : Int) ≤ sz (fun d => tv (τ.1 14 d = 0)) D) ∧ (1 ≤ sz (fun d => tv (τ.1 14 d = 0)) D → (n : Int) + 1 ≤ sz (fun d => tv (τ.1 14 d = 0)) D) := by
  have nn := fun τ : ga_S => sz_nn (f := fun d => tv (τ.1 14 d = 0)) (fun _ => tv_le.1) D
  intro m
  induction m with
  | zero =>
    intro τ hm
    have n0 := nn τ
    refine ⟨0, _, ⟨fun a b h1 h2 h3 => ?_, rfl⟩, by omega, by omega⟩
    have ga : τ.1 14 a = 0 := h3.1.1
    have := sz_ge1 (P := fun d => τ.1 14 d = 0) (n := D) (i := a) (by omega) ga
    omega
  | succ m ih =>
    intro τ hm
    have n0 := nn τ
    rcases Classical.em (∃ a b : Nat, a < b ∧ b < D ∧ CJ_9 r (cntS_9 τ D) a b) with w | w
    · obtain ⟨a, b, hf⟩ := FstP_ex w
      have f1 := hf.1
      have f2 := hf.2.1
      have ga : τ.1 14 a = 0 := hf.2.2.1.1.1
      have gb : τ.1 14 b = 0 := hf.2.2.1.1.2.1
      have e5 : (jS_9 r (cntS_9 τ D) a b).1 14 = ga_up (τ.1 14) b 1 := by unfold jS_9; split <;> rfl
      have LC : sz (fun d => tv (τ.1 14 d = 0)) D = sz (fun d => tv ((jS_9 r (cntS_9 τ D) a b).1 14 d = 0)) D + 1 := by
        rw [e5]
        exact goneC (g := fun d => ga_up (τ.1 14) b 1 d = 0) (g2 := fun d => τ.1 14 d = 0) f2 (by rw [ga_up_at]; decide) gb (fun d hd hne => by rw [ga_up_ne _ _ (by omega)])
      have l2 : 1 ≤ sz (fun d => tv ((jS_9 r (cntS_9 τ D) a b).1 14 d = 0)) D := by
        rw [e5]
        exact sz_ge1 (P := fun d => ga_up (τ.1 14) b 1 d = 0) (n := D) (i := a) (by omega) (by rw [ga_up_ne _ _ (by omega)]; exact ga)
      obtain ⟨n, σ2, k1, k2, k3⟩ := ih (jS_9 r (cntS_9 τ D) a b) (by omega)
      have := k3 l2
      exact ⟨n + 1, σ2, ⟨a, b, hf, k1⟩, by omega, fun _ => by omega⟩
    · exact ⟨0, _, ⟨fun a b h1 h2 h3 => w ⟨a, b, h1, h2, h3⟩, rfl⟩, by omega, fun h => by omega⟩
