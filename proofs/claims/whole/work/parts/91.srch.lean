-- the reference: the search
theorem cg_SE {σ τ : ga_S} (h : core τ = core σ) : SE τ = SE σ := cg SE (fun _ => rfl) h
theorem cg_EV {σ τ : ga_S} (h : core τ = core σ) : EV τ = EV σ := cg EV (fun _ => rfl) h
theorem cg_agP {σ τ : ga_S} (h : core τ = core σ) : agP τ = agP σ := cg agP (fun _ => rfl) h
theorem cg_fpB {σ τ : ga_S} (h : core τ = core σ) : fpB τ = fpB σ := cg fpB (fun _ => rfl) h
theorem cg_tcF {σ τ : ga_S} (h : core τ = core σ) : tcF τ = tcF σ := cg tcF (fun _ => rfl) h
theorem cg_gN {σ τ : ga_S} (h : core τ = core σ) (ch : Int → Int) (L : Int) : ∀ n : Nat, gN τ ch L n = gN σ ch L n
  | 0 => rfl
  | n + 1 => by rw [gN_s, gN_s, cg_gN h ch L n, cg_bU h, cg_SE h]
theorem cg_isC {σ τ : ga_S} (h : core τ = core σ) : isC τ = isC σ := cg isC (fun _ => rfl) h
theorem cg_okS {σ τ : ga_S} (h : core τ = core σ) : okS τ = okS σ := cg okS (fun _ => rfl) h
theorem cg_Srch {σ τ : ga_S} (h : core τ = core σ) {R : Int → Int} {lim L : Int} : ∀ {n : Nat} {d : Int} {ch : Int → Int} {t r : Int} {c2 : Int → Int}, Srch τ R lim L n d ch t r c2 ↔ Srch σ R lim L n d ch t r c2
  | 0, d, ch, t, r, c2 => by unfold Srch; rw [cg_isC h]
  | n + 1, d, ch, t, r, c2 => by
    unfold Srch
    rw [cg_isC h, cg_okS h]
    simp only [cg_Srch (n := n) h]
theorem SE_fun {β : ga_S} {ch ch2 : Int → Int} {p : Int} (h : ∀ i : Int, 0 ≤ i → i < p → ch i = ch2 i) : SE β ch p = SE β ch2 p := by
  funext x y
  exact propext (SE_cg h)
abbrev RS1 : List Nat := [63, 81, 84, 85, 87]
abbrev RS2 : List Nat := [63, 81, 82, 83, 84, 85, 87]
def lvP (σ τ : ga_S) (d : Int) (ch : Int → Int) : Prop := ∀ q : Nat, (q : Int) ≤ d → ∀ a : Int, 0 ≤ a → a < 80 → bU σ a → τ.1 84 (80 * q + a) = lsM (bU σ) (SE σ ch q) 80 a
/-- the reference's search stands as the search told without it, before a device is looked at -/
def RI (σ τ : ga_S) (E : Nat) (d : Int) (ch : Int → Int) (t : Int) : Prop := exc RS1 σ τ ∧ τ.1 63 = ga_up (σ.1 63) 31 t ∧ (∀ i : Int, 0 ≤ i → i ≤ d → τ.1 81 i = ch i) ∧ lvP σ τ d ch ∧ (∀ i : Int, d < i → 0 ≤ i → ch i = -1) ∧ (∀ i : Int, 0 ≤ i → i < d → 0 ≤ ch i ∧ ch i < E) ∧ (0 ≤ d → -1 ≤ ch d ∧ ch d < E)
/-- .. before e is tried -/
def RJ (σ τ : ga_S) (E : Nat) (d : Int) (ch : Int → Int) (t e : Int) : Prop := exc RS1 σ τ ∧ τ.1 63 = ga_up (σ.1 63) 31 t ∧ (∀ i : Int, 0 ≤ i → i < d → τ.1 81 i = ch i) ∧ τ.1 81 d = e ∧ lvP σ τ d ch ∧ (∀ i : Int, d < i → 0 ≤ i → ch i = -1) ∧ (∀ i : Int, 0 ≤ i → i < d → 0 ≤ ch i ∧ ch i < E) ∧ -1 ≤ ch d
def SPo (σ : ga_S) (E : Nat) (lim L r : Int) (c2 : Int → Int) : ga_Po := fun v h => ∃ τ, exc RS2 σ τ ∧ h = HP τ ∧ ∃ t, τ.1 63 = ga_up (σ.1 63) 31 t ∧ ((r = 2 ∧ v = some (Vi 0) ∧ lim < t) ∨ (r = 0 ∧ v = some (Vi 0) ∧ t ≤ lim) ∨ (r = 1 ∧ v = some (Vi 1) ∧ t ≤ lim ∧ (∀ i : Int, 0 ≤ i → i < L → τ.1 81 i = c2 i ∧ 0 ≤ c2 i ∧ c2 i < E) ∧ ∀ n : Int, 0 ≤ n → n < 40 → τ.1 83 n = gN σ c2 L 40 n))
def HDp (σ : ga_S) (E : Nat) (R : Int → Int) (lim L r : Int) (c2 : Int → Int) (n : Nat) : Prop := ∀ (d : Int) (ch : Int → Int) (t : Int) (τ : ga_S), Srch σ R lim L n d ch t r c2 → RI σ τ E d ch t → -1 ≤ d → d ≤ L → 0 ≤ t → t ≤ lim → ga_W 5 0 0 0 0 mX11_isMatched (SPo σ E lim L r c2) ga_nox 99 [some (Vr 63), some (Vi d)] [] (HP τ)
def INp (σ : ga_S) (E : Nat) (R : Int → Int) (lim L r : Int) (c2 : Int → Int) (n : Nat) : Prop := ∀ (k : Nat) (d : Int) (ch : Int → Int) (t e : Int) (τ : ga_S), Srch σ R lim L n d ch t r c2 → RJ σ τ E d ch t e → 0 ≤ d → d < L → 0 ≤ t → t ≤ lim → ch d < e → e + k = E → (∀ e2 : Int, ch d < e2 → e2 < e → ¬ cand σ R d ch e2) → ga_W 5 0 0 0 0 mX11_isMatched (SPo σ E lim L r c2) ga_nox 121 [some (Vr 63), some (Vi d)] [] (HP τ)
/-- what the search finds there -/
def bsP (σ : ga_S) (N D M E : Nat) (R : Int → Int) (lim L : Int) : Prop := wfR σ N D M E ∧ fpB σ ∧ L = lnC σ 30 ∧ (∀ i : Int, 0 ≤ i → i < L → σ.1 80 i = ln σ i) ∧ σ.1 63 22 = L ∧ σ.1 63 30 = lim ∧ nEq 60 (bL σ) (σ.1 73) R ∧ (∀ a : Int, 0 ≤ a → a < 80 → σ.1 86 a = tv (bU σ a)) ∧ 0 ≤ lim ∧ lim ≤ 2000
section Srch
variable {σ : ga_S} {N D M E : Nat} {R : Int → Int} {lim L r : Int} {c2 : Int → Int}
theorem gB_ok (hw : wfR σ N D M E) {x : Int} (x1 : 0 ≤ x) (x2 : x < 60) : ∀ k : Int, 0 ≤ k → k < 4 → 0 ≤ gB σ (4 * x + k) ∧ gB σ (4 * x + k) < 4 := by
  intro k k1 k2
  have h := hw.1.2.2.2.2.2.1 x x1 x2
  rw [gB_at k1 k2]
  exact hw.2.2.2.2 _ (by omega) (by omega)
theorem hE_of (hw : wfR σ N D M E) {τ : ga_S} {ch : Int → Int} {p : Nat} {e : Int} (h : lvP σ τ p ch) (l1 : 0 ≤ ln σ p) (l2 : ln σ p < 30) (e1 : 0 ≤ e) (e2 : e < 30) : ∀ y z : Int, 0 ≤ y → y < 80 → 0 ≤ z → z < 80 → bU σ y → bU σ z → (SE σ (ga_up ch p e) ((p : Int) + 1) y z ↔ τ.1 84 (80 * p + y) = τ.1 84 (80 * p + z) ∧ tcF σ (ln σ p) (30 + e) y = tcF σ (ln σ p) (30 + e) z) := by
  intro y z y1 y2 z1 z2 uy uz
  have q := SE_q σ ch p
  have e9 : SE σ (ga_up ch p e) p = SE σ ch p := SE_fun (fun i i1 i2 => ga_up_ne _ _ (by omega))
  rw [SE_s (by omega), e9, h p (Int.le_refl _) y y1 y2 uy, h p (Int.le_refl _) z z1 z2 uz, lsM_y uy, lsM_y uz, lst_eq (T := 80) q.1 q.2.1 q.2.2 y1 y2 z1 z2 uy uz]
  refine and_congr Iff.rfl ?_
  unfold tcF dv
  rw [ga_up_at]
  exact (tc_kV (gB_ok hw (by split <;> omega) (by split <;> omega)) (gB_ok hw (by split <;> omega) (by split <;> omega))).symm
theorem cc_cand (hw : wfR σ N D M E) (hR : nEq 60 (bL σ) (σ.1 73) R) {τ : ga_S} {ch : Int → Int} {p : Nat} {e : Int} (e68 : τ.1 68 = σ.1 68) (e73 : τ.1 73 = σ.1 73) (h81 : ∀ i : Int, 0 ≤ i → i < p → τ.1 81 i = ch i) (l1 : 0 ≤ ln σ p) (l2 : ln σ p < 30) (ll : bL σ (ln σ p)) (e1 : 0 ≤ e) (e2 : e < E) : ccP τ p (ln σ p) e ↔ cand σ R p ch e := by
  have hE2 := hw.2.1.2.2.1
  have hE3 := hw.2.1.2.1
  unfold ccP cand
  rw [e68, e73]
  have lb : bL σ (30 + e) ↔ σ.1 68 (30 + e) = 0 := ⟨fun w => w.2, fun w => ⟨by rw [show (30 + e) / 30 = 1 by omega, hE3]; omega, w⟩⟩
  constructor
  · rintro ⟨⟨a, b⟩, c⟩
    have l := lb.mpr b
    refine ⟨l, fun i i1 i2 => ?_, ?_⟩
    · have := a i.toNat (by omega)
      rw [Int.toNat_of_nonneg i1, h81 i i1 i2] at this
      exact this
    · exact ((hR (ln σ p) (30 + e) l1 (by omega) (by omega) (by omega) ll l).mp c).symm
  · rintro ⟨a, b, c⟩
    refine ⟨⟨fun i hi => ?_, lb.mp a⟩, (hR (ln σ p) (30 + e) l1 (by omega) (by omega) (by omega) ll a).mpr c.symm⟩
    rw [h81 i (by omega) (by omega)]
    exact b i (by omega) (by omega)
theorem step_IN (hb : bsP σ N D M E R lim L) (n : Nat) (ih : ∀ m, n = m + 1 → HDp σ E R lim L r c2 m ∧ INp σ E R lim L r c2 m) : INp σ E R lim L r c2 n := by
  obtain ⟨hw, hf, hL, hl, h22, h30, hR, hu, m1, m2⟩ := hb
  have hE2 := hw.2.1.2.2.1
  have hE3 := hw.2.1.2.1
  have hL2 := lnC_b σ 30
  intro k
  induction k with
  | zero =>
    intro d ch t e τ hs hj d1 d2 t1 t2 he hk hno
    obtain ⟨j1, j2, j3, j4, j5, j6, j7, j8⟩ := hj
    have e70 : τ.1 70 1 = E := by rw [j1.1 70 (by decide)]; exact hE3
    have i31 : τ.1 63 31 = t := by rw [j2, ga_up_at]
    have i30 : τ.1 63 30 = lim := by rw [j2, ga_up_ne _ _ (by decide)]; exact h30
    have NOC : ∀ e2, ¬ isC σ R d ch e2 := by
      rintro e2 ⟨a1, a2, a3, a4, _⟩
      have := a4.1.1
      rw [show (30 + e2) / 30 = 1 by omega, hE3] at this
      exact hno e2 a3 (by omega) a4
    cases n with
    | zero =>
      rcases hs with ⟨s1, _⟩ | ⟨_, s1, _⟩ | ⟨_, _, ⟨e2, s1⟩, _⟩
      · omega
      · omega
      · exact absurd s1 (NOC e2)
    | succ n =>
      obtain ⟨_, _, s3⟩ := hs
      rcases s3 with ⟨_, s4⟩ | ⟨e2, s4, _⟩
      rotate_left
      · exact absurd s4 (NOC e2)
      have J : ∀ pc5, pc5 = 157 → ga_W 5 0 0 0 0 mX11_isMatched (SPo σ E lim L r c2) ga_nox pc5 [some (Vr 63), some (Vi d)] [] (HP τ) := by
        intro pc5 hpc
        subst hpc
        refine ga_aload_n dX11_isMatched_157 rfl ?_
        refine hg_getL 31 grX11_177 dX11_isMatched_158 rfl rfl rfl ?_
        refine ga_aload_n dX11_isMatched_161 rfl ?_
        refine hg_getL 30 grX11_181 dX11_isMatched_162 rfl rfl rfl ?_
        refine ga_lcmp dX11_isMatched_165 ?_
        refine ga_if_le (tgt := 171) dX11_isMatched_166 rfl (fun c_166 => ?_) (fun c_166 => ?_)
        · refine ga_aload_n dX11_isMatched_171 rfl ?_
          refine hg_getR grX11_63 dX11_isMatched_172 rfl rfl ?_
          refine ga_iload_n dX11_isMatched_175 rfl ?_
          refine hg_iald dX11_isMatched_176 rfl (by omega) (by omega) ?_
          refine ga_aload_n dX11_isMatched_177 rfl ?_
          refine hg_getR grX11_30 dX11_isMatched_178 rfl rfl ?_
          refine ga_iconst dX11_isMatched_181 ⟨by decide, by decide⟩ ?_
          refine hg_iald dX11_isMatched_182 rfl (by omega) (by omega) ?_
          refine ga_icmp_ne (tgt := 192) dX11_isMatched_183 rfl (fun c_183 => ?_) (fun c_183 => ?_)
          · omega
          · refine ga_iinc (z := (d - 1)) (lv2 := [_, _]) dX11_isMatched_186 (by decide) rfl rfl (by omega) (⟨by omega, by omega⟩) rfl ?_
            refine ga_goto (tgt := 99) dX11_isMatched_189 rfl ?_
            refine (ih n rfl).1 (d - 1) (ga_up ch d (-1)) t τ s4 ⟨j1, j2, fun i a b => ?_, fun q hq => ?_, fun i a b => ?_, fun i a b => ?_, fun a => ?_⟩ (by omega) (by omega) t1 t2
            · rw [ga_up_ne _ _ (by omega)]; exact j3 i a (by omega)
            · rw [SE_fun (ch2 := ch) (fun i a b => ga_up_ne _ _ (by omega))]
              exact j5 q (by omega)
            · by_cases w : i = d
              · rw [w, ga_up_at]
              · rw [ga_up_ne _ _ w]; exact j6 i (by omega) b
            · rw [ga_up_ne _ _ (by omega)]; exact j7 i a (by omega)
            · rw [ga_up_ne _ _ (by omega)]
              have := j7 (d - 1) a (by omega)
              omega
        · have := lc_le (x := τ.1 63 31) (y := τ.1 63 30)
          omega
      refine ga_aload_n dX11_isMatched_121 rfl ?_
      refine hg_getR grX11_63 dX11_isMatched_122 rfl rfl ?_
      refine ga_iload_n dX11_isMatched_125 rfl ?_
      refine hg_iald dX11_isMatched_126 rfl (by omega) (by omega) ?_
      refine ga_aload_n dX11_isMatched_127 rfl ?_
      refine hg_getR grX11_30 dX11_isMatched_128 rfl rfl ?_
      refine ga_iconst dX11_isMatched_131 ⟨by decide, by decide⟩ ?_
      refine hg_iald dX11_isMatched_132 rfl (by omega) (by omega) ?_
      refine ga_icmp_ge (tgt := 157) dX11_isMatched_133 rfl (fun c_133 => ?_) (fun c_133 => ?_)
      · exact J 157 rfl
      · omega
  | succ k ihk =>
    intro d ch t e τ hs hj d1 d2 t1 t2 he hk hno
    have hj' := hj
    obtain ⟨j1, j2, j3, j4, j5, j6, j7, j8⟩ := hj
    obtain ⟨p, rfl⟩ : ∃ p : Nat, d = p := ⟨d.toNat, by omega⟩
    have li := ln_in (β := σ) (e := 30) (Nat.le_refl _) p (by omega) (by omega)
    have e70 : τ.1 70 1 = E := by rw [j1.1 70 (by decide)]; exact hE3
    have i31 : τ.1 63 31 = t := by rw [j2, ga_up_at]
    have i30 : τ.1 63 30 = lim := by rw [j2, ga_up_ne _ _ (by decide)]; exact h30
    have hc : core τ = core σ := core_exc j1 (by decide)
    have hE := hE_of hw (e := e) j5 li.1 (by omega) (by omega) (by omega)
    have CC := cc_cand hw hR (e := e) (j1.1 68 (by decide)) (j1.1 73 (by decide)) j3 li.1 (by omega) li.2.2.1 (by omega) (by omega)
    have eP : (prS τ).1 63 = ga_up (σ.1 63) 31 (t + 1) := by
      show ga_up (τ.1 63) 31 (τ.1 63 31 + 1) = _
      rw [i31, j2, ga_up_up]
    have xP : exc RS1 σ (prS τ) := exc_st j1 (by decide)
    -- the next one, of the same state
    refine ga_aload_n dX11_isMatched_121 rfl ?_
    refine hg_getR grX11_63 dX11_isMatched_122 rfl rfl ?_
    refine ga_iload_n dX11_isMatched_125 rfl ?_
    refine hg_iald dX11_isMatched_126 rfl (by omega) (by omega) ?_
    refine ga_aload_n dX11_isMatched_127 rfl ?_
    refine hg_getR grX11_30 dX11_isMatched_128 rfl rfl ?_
    refine ga_iconst dX11_isMatched_131 ⟨by decide, by decide⟩ ?_
    refine hg_iald dX11_isMatched_132 rfl (by omega) (by omega) ?_
    refine ga_icmp_ge (tgt := 157) dX11_isMatched_133 rfl (fun c_133 => ?_) (fun c_133 => ?_)
    · omega
    · refine ga_aload_n dX11_isMatched_136 rfl ?_
      refine ga_iload_n dX11_isMatched_137 rfl ?_
      refine hc_VP (T_X11_isChoice τ N D M E p (ln σ p) e (ga_up ch p e) (by rw [cg_wfR hc]; exact hw) (by rw [cg_fpB hc]; exact hf) (by omega) (by rw [j1.1 80 (by decide)]; exact hl p (by omega) d2) j4 (by rw [cg_bL hc]; exact li.2.2.1) li.1 (by omega) (by omega) (by omega) (by omega) (by rw [cg_SE hc, cg_bU hc, cg_tcF hc]; exact hE) (by rw [j1.1 86 (by decide), cg_bU hc]; exact hu)) fX11_isChoice rfl kX11_isChoice lkX11_207 dX11_isMatched_138 rfl rfl rfl rfl rfl rfl rfl rfl ?_
      intro v h2 hcase
      rw [cg_bU hc, cg_SE hc, cg_EV hc, cg_agP hc, CC, i31, i30] at hcase
      -- e is not it: on
      have NXT : ∀ (υ : ga_S) (ch2 : Int → Int) (t2 : Int) (m : Nat), INp σ E R lim L r c2 m → True := fun _ _ _ _ _ => trivial
      rcases hcase with ⟨w1, w2, w3⟩ | ⟨w1, w4⟩
      · rw [w2, w3]
        refine ga_if_ne (tgt := 157) dX11_isMatched_141 rfl (fun c_141 => ?_) (fun c_141 => ?_)
        · exact absurd rfl c_141
        · refine ga_aload_n dX11_isMatched_144 rfl ?_
          refine hg_getR grX11_63 dX11_isMatched_145 rfl rfl ?_
          refine ga_iload_n dX11_isMatched_148 rfl ?_
          refine ga_dup2 dX11_isMatched_149 rfl rfl ?_
          refine hg_iald dX11_isMatched_150 rfl (by omega) (by omega) ?_
          refine ga_iconst dX11_isMatched_151 ⟨by decide, by decide⟩ ?_
          rw [j4]
          refine ga_iadd dX11_isMatched_152 rfl (⟨by omega, by omega⟩) ?_
          refine hg_iast dX11_isMatched_153 rfl (by omega) (by omega) ?_
          refine ga_goto (tgt := 121) dX11_isMatched_154 rfl ?_
          refine ihk p ch t (e + 1) _ hs ⟨exc_st j1 (by decide), j2, fun i a b => ?_, ?_, j5, j6, j7, j8⟩ d1 d2 t1 t2 (by omega) (by omega) (fun e2 a b => ?_)
          · rw [stI_at, ga_up_ne _ _ (by omega)]; exact j3 i a b
          · rw [stI_at, ga_up_at]
          · by_cases w : e2 = e
            · rw [w]; exact w1
            · exact hno e2 a (by omega)
      · have IC : isC σ R p ch e := ⟨by omega, by omega, he, w1, fun e2 a b c => hno e2 c b⟩
        -- what the search says of e
        have SS : (lim ≤ t ∧ r = 2) ∨ ∃ m, n = m + 1 ∧ t < lim ∧ ((okS σ p (ga_up ch p e) ∧ Srch σ R lim L m ((p : Int) + 1) (ga_up ch p e) (t + 1) r c2) ∨ (¬ okS σ p (ga_up ch p e) ∧ Srch σ R lim L m p (ga_up ch p e) (t + 1) r c2)) := by
          cases n with
          | zero =>
            rcases hs with ⟨s1, _⟩ | ⟨_, s1, _⟩ | ⟨_, _, _, s1, s2⟩
            · omega
            · omega
            · exact Or.inl ⟨s1, s2⟩
          | succ n =>
            obtain ⟨_, _, s3⟩ := hs
            rcases s3 with ⟨s4, _⟩ | ⟨e2, s4, s5, s6⟩
            · exact absurd IC (s4 e)
            · have := isC_one s4 IC
              subst this
              exact Or.inr ⟨n, rfl, s5, s6⟩
        have OK : okS σ p (ga_up ch p e) ↔ agP σ (ln σ p) (30 + e) ∧ EV σ (ga_up ch p e) ((p : Int) + 1) := by
          unfold okS
          rw [ga_up_at]
        -- not found fit: the next one
        have FAIL : ∀ υ : ga_S, exc RS1 σ υ → υ.1 63 = ga_up (σ.1 63) 31 (t + 1) → (∀ i : Int, 0 ≤ i → i < p → υ.1 81 i = ch i) → υ.1 81 p = e → lvP σ υ p ch → ¬ okS σ p (ga_up ch p e) → t + 1 ≤ lim → ga_W 5 0 0 0 0 mX11_isMatched (SPo σ E lim L r c2) ga_nox 144 [some (Vr 63), some (Vi (p : Int))] [] (HP υ) := by
          intro υ x1 x2 x3 x4 x5 x6 x7
          rcases SS with ⟨s1, _⟩ | ⟨m, hm, s1, (⟨s2, _⟩ | ⟨_, s2⟩)⟩
          · omega
          · exact absurd s2 x6
          · refine ga_aload_n dX11_isMatched_144 rfl ?_
            refine hg_getR grX11_63 dX11_isMatched_145 rfl rfl ?_
            refine ga_iload_n dX11_isMatched_148 rfl ?_
            refine ga_dup2 dX11_isMatched_149 rfl rfl ?_
            refine hg_iald dX11_isMatched_150 rfl (by omega) (by omega) ?_
            refine ga_iconst dX11_isMatched_151 ⟨by decide, by decide⟩ ?_
            rw [x4]
            refine ga_iadd dX11_isMatched_152 rfl (⟨by omega, by omega⟩) ?_
            refine hg_iast dX11_isMatched_153 rfl (by omega) (by omega) ?_
            refine ga_goto (tgt := 121) dX11_isMatched_154 rfl ?_
            refine (ih m hm).2 k p (ga_up ch p e) (t + 1) (e + 1) _ s2 ⟨exc_st x1 (by decide), x2, fun i a b => ?_, ?_, fun q hq => ?_, fun i a b => ?_, fun i a b => ?_, ?_⟩ d1 d2 (by omega) x7 (by rw [ga_up_at]; omega) (by omega) (fun e2 a b => ?_)
            · rw [stI_at, ga_up_ne _ _ (by omega), ga_up_ne _ _ (by omega)]; exact x3 i a b
            · rw [stI_at, ga_up_at]
            · rw [SE_fun (ch2 := ch) (fun i a b => ga_up_ne _ _ (by omega))]
              exact x5 q hq
            · rw [ga_up_ne _ _ (by omega)]; exact j6 i a b
            · rw [ga_up_ne _ _ (by omega)]; exact j7 i a b
            · rw [ga_up_at]; omega
            · rw [ga_up_at] at a; omega
        rcases w4 with ⟨w5, w2, w3⟩ | ⟨w5, w6⟩
        · -- too many
          rw [w2, w3]
          rcases SS with ⟨_, s2⟩ | ⟨m, _, s1, _⟩
          rotate_left
          · omega
          refine ga_if_ne (tgt := 157) dX11_isMatched_141 rfl (fun c_141 => ?_) (fun c_141 => ?_)
          · have n31 : (prS τ).1 63 31 = t + 1 := by rw [eP, ga_up_at]
            have n30 : (prS τ).1 63 30 = lim := by rw [eP, ga_up_ne _ _ (by decide)]; exact h30
            refine ga_aload_n dX11_isMatched_157 rfl ?_
            refine hg_getL 31 grX11_177 dX11_isMatched_158 rfl rfl rfl ?_
            refine ga_aload_n dX11_isMatched_161 rfl ?_
            refine hg_getL 30 grX11_181 dX11_isMatched_162 rfl rfl rfl ?_
            refine ga_lcmp dX11_isMatched_165 ?_
            refine ga_if_le (tgt := 171) dX11_isMatched_166 rfl (fun c_166 => ?_) (fun c_166 => ?_)
            · rw [n31, n30] at c_166
              have := lc_le (x := t + 1) (y := lim)
              omega
            · refine ga_iconst dX11_isMatched_169 ⟨by decide, by decide⟩ ?_
              refine ga_ret (v := some _) ?_ rfl (by decide) (by decide) ⟨dX11_isMatched_170, _, rfl, rfl⟩
              exact ⟨prS τ, exc_m xP (by decide), rfl, t + 1, eP, Or.inl ⟨s2, rfl, w5⟩⟩
          · exact absurd c_141 (by decide)
        · rcases w6 with ⟨w7, w2, w3⟩ | ⟨w7, υ, v1, v2, v3, v4, v5⟩
          · rw [w2, w3]
            refine ga_if_ne (tgt := 157) dX11_isMatched_141 rfl (fun c_141 => ?_) (fun c_141 => ?_)
            · exact absurd rfl c_141
            · exact FAIL (prS τ) xP eP j3 j4 j5 (fun q => w7 (OK.mp q).1) w5
          · rw [v4, v5]
            have y1 : exc RS1 σ υ := exc_tr xP v1 (fun _ q => q) (by decide)
            have y2 : υ.1 63 = ga_up (σ.1 63) 31 (t + 1) := by rw [v1.1 63 (by decide)]; exact eP
            have y3 : υ.1 81 = τ.1 81 := v1.1 81 (by decide)
            have y4 : lvP σ υ p ch := fun q hq a a1 a2 ua => by rw [v2 _ (by omega)]; exact j5 q hq a a1 a2 ua
            refine ga_if_ne (tgt := 157) dX11_isMatched_141 rfl (fun c_141 => ?_) (fun c_141 => ?_)
            · rw [tv_ne0] at c_141
              have ok := OK.mpr ⟨w7, c_141⟩
              rcases SS with ⟨s1, _⟩ | ⟨m, hm, s1, (⟨_, s2⟩ | ⟨s2, _⟩)⟩
              · omega
              · have n31 : υ.1 63 31 = t + 1 := by rw [y2, ga_up_at]
                have n30 : υ.1 63 30 = lim := by rw [y2, ga_up_ne _ _ (by decide)]; exact h30
                have u70 : υ.1 70 1 = E := by rw [y1.1 70 (by decide)]; exact hE3
                have u81 : υ.1 81 p = e := by rw [y3]; exact j4
                refine ga_aload_n dX11_isMatched_157 rfl ?_
                refine hg_getL 31 grX11_177 dX11_isMatched_158 rfl rfl rfl ?_
                refine ga_aload_n dX11_isMatched_161 rfl ?_
                refine hg_getL 30 grX11_181 dX11_isMatched_162 rfl rfl rfl ?_
                refine ga_lcmp dX11_isMatched_165 ?_
                refine ga_if_le (tgt := 171) dX11_isMatched_166 rfl (fun c_166 => ?_) (fun c_166 => ?_)
                · refine ga_aload_n dX11_isMatched_171 rfl ?_
                  refine hg_getR grX11_63 dX11_isMatched_172 rfl rfl ?_
                  refine ga_iload_n dX11_isMatched_175 rfl ?_
                  refine hg_iald dX11_isMatched_176 rfl (by omega) (by omega) ?_
                  refine ga_aload_n dX11_isMatched_177 rfl ?_
                  refine hg_getR grX11_30 dX11_isMatched_178 rfl rfl ?_
                  refine ga_iconst dX11_isMatched_181 ⟨by decide, by decide⟩ ?_
                  refine hg_iald dX11_isMatched_182 rfl (by omega) (by omega) ?_
                  refine ga_icmp_ne (tgt := 192) dX11_isMatched_183 rfl (fun c_183 => ?_) (fun c_183 => ?_)
                  · refine ga_iinc (z := ((p : Int) + 1)) (lv2 := [_, _]) dX11_isMatched_192 (by decide) rfl rfl (by omega) (⟨by omega, by omega⟩) rfl ?_
                    refine ga_aload_n dX11_isMatched_195 rfl ?_
                    refine hg_getR grX11_63 dX11_isMatched_196 rfl rfl ?_
                    refine ga_iload_n dX11_isMatched_199 rfl ?_
                    refine ga_iconst dX11_isMatched_200 ⟨by decide, by decide⟩ ?_
                    refine hg_iast dX11_isMatched_201 rfl (by omega) (by omega) ?_
                    refine ga_goto (tgt := 99) dX11_isMatched_202 rfl ?_
                    refine (ih m hm).1 ((p : Int) + 1) (ga_up ch p e) (t + 1) _ s2 ⟨exc_st y1 (by decide), y2, fun i a b => ?_, fun q hq a a1 a2 ua => ?_, fun i a b => ?_, fun i a b => ?_, fun a => ?_⟩ (by omega) (by omega) (by omega) w5
                    · rw [stI_at]
                      by_cases w : i = (p : Int) + 1
                      · rw [w, ga_up_at, ga_up_ne _ _ (by omega)]; exact (j6 _ (by omega) (by omega)).symm
                      · rw [ga_up_ne _ _ w]
                        by_cases w' : i = p
                        · rw [w', ga_up_at]; exact u81
                        · rw [ga_up_ne _ _ w', y3]; exact j3 i a (by omega)
                    · show υ.1 84 _ = _
                      by_cases w : q = p + 1
                      · rw [w]
                        exact v3 a a1 a2 ua
                      · rw [SE_fun (ch2 := ch) (fun i a b => ga_up_ne _ _ (by omega))]
                        exact y4 q (by omega) a a1 a2 ua
                    · rw [ga_up_ne _ _ (by omega)]; exact j6 i (by omega) b
                    · by_cases w : i = p
                      · rw [w, ga_up_at]; omega
                      · rw [ga_up_ne _ _ w]; exact j7 i a (by omega)
                    · rw [ga_up_ne _ _ (by omega), j6 _ (by omega) (by omega)]; omega
                  · omega
                · rw [n31, n30] at c_166
                  have := lc_le (x := t + 1) (y := lim)
                  omega
              · exact absurd ok s2
            · rw [tv_eq0] at c_141
              exact FAIL υ y1 y2 (by rw [y3]; exact j3) (by rw [y3]; exact j4) y4 (fun q => c_141 (OK.mp q).2) w5
theorem step_HD (hb : bsP σ N D M E R lim L) (n : Nat) (hi : INp σ E R lim L r c2 n) : HDp σ E R lim L r c2 n := by
  obtain ⟨hw, hf, hL, hl, h22, h30, hR, hu, m1, m2⟩ := hb
  have hE2 := hw.2.1.2.2.1
  have hL2 := lnC_b σ 30
  intro d ch t τ hs hI d1 d2 t1 t2
  obtain ⟨j1, j2, j3, j4, j5, j6, j7⟩ := hI
  have i22 : τ.1 63 22 = L := by rw [j2, ga_up_ne _ _ (by decide)]; exact h22
  have hc : core τ = core σ := core_exc j1 (by decide)
  rcases (show d < 0 ∨ d = L ∨ (0 ≤ d ∧ d < L) by omega) with q | q | ⟨q1, q2⟩
  · have s2 : r = 0 := by
      cases n with
      | zero =>
        rcases hs with ⟨_, s⟩ | ⟨s, _⟩ | ⟨s, _⟩
        · exact s
        · omega
        · omega
      | succ n => have := hs.1; omega
    refine ga_iload_n dX11_isMatched_99 rfl ?_
    refine ga_if_lt (tgt := 205) dX11_isMatched_100 rfl (fun c_100 => ?_) (fun c_100 => ?_)
    · refine ga_iload_n dX11_isMatched_205 rfl ?_
      refine ga_if_ge (tgt := 211) dX11_isMatched_206 rfl (fun c_206 => ?_) (fun c_206 => ?_)
      · omega
      · refine ga_iconst dX11_isMatched_209 ⟨by decide, by decide⟩ ?_
        refine ga_ret (v := some _) ?_ rfl (by decide) (by decide) ⟨dX11_isMatched_210, _, rfl, rfl⟩
        exact ⟨τ, exc_m j1 (by decide), rfl, t, j2, Or.inr (Or.inl ⟨s2, rfl, t2⟩)⟩
    · omega
  · subst q
    have s2 : r = 1 ∧ c2 = ch := by
      cases n with
      | zero =>
        rcases hs with ⟨s, _⟩ | ⟨_, _, s, s'⟩ | ⟨_, s, _⟩
        · omega
        · exact ⟨s, s'⟩
        · omega
      | succ n => have := hs.2.1; omega
    obtain ⟨s3, s4⟩ := s2
    subst s4
    obtain ⟨p, rfl⟩ : ∃ p : Nat, d = p := ⟨d.toNat, by omega⟩
    refine ga_iload_n dX11_isMatched_99 rfl ?_
    refine ga_if_lt (tgt := 205) dX11_isMatched_100 rfl (fun c_100 => ?_) (fun c_100 => ?_)
    · omega
    · refine ga_iload_n dX11_isMatched_103 rfl ?_
      refine ga_aload_n dX11_isMatched_104 rfl ?_
      refine hg_getI 22 grX11_194 dX11_isMatched_105 rfl rfl rfl ?_
      refine ga_icmp_ge (tgt := 205) dX11_isMatched_108 rfl (fun c_108 => ?_) (fun c_108 => ?_)
      · refine ga_iload_n dX11_isMatched_205 rfl ?_
        refine ga_if_ge (tgt := 211) dX11_isMatched_206 rfl (fun c_206 => ?_) (fun c_206 => ?_)
        · refine ga_aload_n dX11_isMatched_211 rfl ?_
          refine ga_aload_n dX11_isMatched_212 rfl ?_
          refine hg_getI 22 grX11_194 dX11_isMatched_213 rfl rfl rfl ?_
          rw [i22]
          refine hc_VP (T_X11_pairNets τ p c2 (by omega) (by omega) (by rw [cg_bU hc, cg_SE hc]; exact j4 p (Int.le_refl _)) (by rw [cg_bU hc, j1.1 86 (by decide)]; exact hu)) fX11_pairNets rfl kX11_pairNets lkX11_210 dX11_isMatched_216 rfl rfl rfl rfl rfl rfl rfl rfl ?_
          rintro v h2 ⟨υ, w1, w2, w3, w4⟩
          rw [w3, w4]
          refine ga_iconst dX11_isMatched_219 ⟨by decide, by decide⟩ ?_
          refine ga_ret (v := some _) ?_ rfl (by decide) (by decide) ⟨dX11_isMatched_220, _, rfl, rfl⟩
          refine ⟨υ, exc_tr j1 w1 (by decide) (by decide), rfl, t, by rw [w1.1 63 (by decide)]; exact j2, Or.inr (Or.inr ⟨s3, rfl, t2, fun i a b => ?_, fun n a b => ?_⟩)⟩
          · rw [w1.1 81 (by decide)]
            exact ⟨j3 i a (by omega), j6 i a b⟩
          · rw [w2 n a b]
            rw [cg_gN hc c2 p 40]
        · omega
      · omega
  · have e81 := j3 d q1 (Int.le_refl _)
    have j7' := j7 q1
    refine ga_iload_n dX11_isMatched_99 rfl ?_
    refine ga_if_lt (tgt := 205) dX11_isMatched_100 rfl (fun c_100 => ?_) (fun c_100 => ?_)
    · omega
    · refine ga_iload_n dX11_isMatched_103 rfl ?_
      refine ga_aload_n dX11_isMatched_104 rfl ?_
      refine hg_getI 22 grX11_194 dX11_isMatched_105 rfl rfl rfl ?_
      refine ga_icmp_ge (tgt := 205) dX11_isMatched_108 rfl (fun c_108 => ?_) (fun c_108 => ?_)
      · omega
      · refine ga_aload_n dX11_isMatched_111 rfl ?_
        refine hg_getR grX11_63 dX11_isMatched_112 rfl rfl ?_
        refine ga_iload_n dX11_isMatched_115 rfl ?_
        refine ga_dup2 dX11_isMatched_116 rfl rfl ?_
        refine hg_iald dX11_isMatched_117 rfl (by omega) (by omega) ?_
        refine ga_iconst dX11_isMatched_118 ⟨by decide, by decide⟩ ?_
        rw [e81]
        refine ga_iadd dX11_isMatched_119 rfl (⟨by omega, by omega⟩) ?_
        refine hg_iast dX11_isMatched_120 rfl (by omega) (by omega) ?_
        refine hi (E - (ch d + 1)).toNat d ch t (ch d + 1) _ hs ⟨exc_st j1 (by decide), j2, fun i a b => ?_, ?_, j4, j5, j6, j7'.1⟩ q1 q2 t1 t2 (by omega) (by omega) (fun e2 a b => by omega)
        · rw [stI_at, ga_up_ne _ _ (by omega)]; exact j3 i a (by omega)
        · rw [stI_at, ga_up_at]
theorem srch_all (hb : bsP σ N D M E R lim L) : ∀ n : Nat, HDp σ E R lim L r c2 n ∧ INp σ E R lim L r c2 n
  | 0 => by
    have h := step_IN (r := r) (c2 := c2) hb 0 (fun m hm => by omega)
    exact ⟨step_HD hb 0 h, h⟩
  | n + 1 => by
    have ih := srch_all hb n
    have h := step_IN (r := r) (c2 := c2) hb (n + 1) (fun m hm => by
      have : n = m := by omega
      rw [← this]
      exact ih)
    exact ⟨step_HD hb (n + 1) h, h⟩
end Srch
