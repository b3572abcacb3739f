-- what the cells of class and reference keep to together
def SD (i : Int) (cnt port kind gone pins : Int → Int) (sizes : Int → UInt64) (σ : ga_S) (N D : Nat) : Prop := agF i cnt port kind gone pins sizes σ N D ∧ (∀ n : Int, N ≤ n → n < 40 → port n = -1) ∧ (∀ d : Int, D ≤ d → d < 30 → gone d = 0) ∧ (∀ j : Int, 4 * D ≤ j → j < 120 → pins j = -1) ∧ finS i σ D
abbrev SD_2 (σ : ga_S) (N D : Nat) : Prop := SD 0 (σ.1 2) (σ.1 3) (σ.1 5) (σ.1 7) (σ.1 8) (σ.2 6) σ N D
abbrev SD_9 (σ : ga_S) (N D : Nat) : Prop := SD 1 (σ.1 9) (σ.1 10) (σ.1 12) (σ.1 14) (σ.1 15) (σ.2 13) σ N D
def shB (σ : ga_S) : Prop := ∀ k : Int, 0 ≤ k → k < 8 → (σ.2 72 k).toNat ≤ 4607182418800017408
def rgB (σ : ga_S) : Prop := (∀ x : Int, 0 ≤ x → x < 60 → 0 ≤ σ.1 66 x ∧ σ.1 66 x < 8) ∧ (∀ z : Int, 0 ≤ z → z < 240 → -1 ≤ σ.1 69 z ∧ σ.1 69 z < 40) ∧ (∀ y : Int, 0 ≤ y → y < 80 → -1 ≤ σ.1 64 y) ∧ unq σ
def dfB (σ : ga_S) : Prop := (σ.1 0 6 = σ.1 63 14 ∧ σ.1 0 7 = σ.1 63 15) ∧ σ.1 60 0 = σ.1 63 17 ∧ 0 ≤ σ.1 63 17 ∧ σ.1 63 17 ≤ 89 ∧ ∀ j : Int, 0 ≤ j → j < 4 * σ.1 63 17 → σ.1 61 j = σ.1 77 j
def kpB (σ : ga_S) (N D M E : Nat) : Prop := (σ.1 55 0 ≠ 0 ↔ σ.1 63 18 ≠ 0) ∧ (σ.1 63 18 = 0 → (∀ i : Int, 0 ≤ i → i < 30 → σ.1 56 i = -1 ∧ σ.1 57 i = -1) ∧ ∀ i : Int, 0 ≤ i → i < 40 → σ.1 58 i = -1 ∧ σ.1 59 i = -1) ∧ (σ.1 63 18 ≠ 0 → (∀ d : Int, 0 ≤ d → d < 30 → σ.1 56 d = σ.1 78 d ∧ σ.1 57 d = σ.1 78 (30 + d)) ∧ (∀ n : Int, 0 ≤ n → n < 40 → σ.1 58 n = σ.1 79 n) ∧ prs σ (σ.1 59) N D M E)
def Inv (σ : ga_S) (N D M E : Nat) : Prop := (SD_2 σ N D ∧ SD_9 σ M E) ∧ (agG (σ.1 17) σ ∧ agH (σ.2 18) σ ∧ shB σ) ∧ rgB σ ∧ dfB σ ∧ kpB σ N D M E
theorem Inv.dsb {σ : ga_S} {N D M E : Nat} (h : Inv σ N D M E) : dsb σ σ N D M E := ⟨h.1.1.1, h.1.2.1, h.2.1.1⟩
theorem finS_lt {s : Int} {σ : ga_S} {D : Nat} (hD : D ≤ 30) (h : finS s σ D) {d : Int} (d1 : 0 ≤ d) (d2 : d < 30) : dLt (σ.2 67 (30 * s + d)) 1103 := by
  obtain ⟨G, g1, g2⟩ := h
  have G30 : sz (fun d => tv (¬ σ.1 68 (30 * s + d) = 0)) D ≤ D := (sz_b (f := fun d => tv (¬ σ.1 68 (30 * s + d) = 0)) (fun _ => tv_le)).2
  exact Nat.lt_of_lt_of_le (g2 d d1 d2) (Nat.mul_le_mul_right _ (by omega))
section InvS
variable {σ : ga_S} {N D M E : Nat}
theorem Inv.lt (h : Inv σ N D M E) {x : Int} (x1 : 0 ≤ x) (x2 : x < 60) : dLt (σ.2 67 x) 1103 := by
  have hD := h.1.1.1.1.2.2.2.1
  have hE := h.1.2.1.1.2.2.2.1
  by_cases q : x < 30
  · have := finS_lt hD h.1.1.2.2.2.2 x1 q
    rw [show 30 * (0 : Int) + x = x by omega] at this
    exact this
  · have := finS_lt hE h.1.2.2.2.2.2 (d := x - 30) (by omega) (by omega)
    rw [show 30 * (1 : Int) + (x - 30) = x by omega] at this
    exact this
theorem Inv.wf (h : Inv σ N D M E) : wfR σ N D M E := by
  have hz : ∀ x : Int, 0 ≤ x → x < 60 → SzG (σ.2 67 x) := fun x a b => (h.lt a b).good (by decide)
  have hg := dsg_all (mkU_dsg h.dsb)
  obtain ⟨⟨⟨a1, _⟩, ⟨a2, _⟩⟩, ⟨g1, _⟩, ⟨r1, r2, r3, r4⟩, _⟩ := h
  exact ⟨⟨Or.inl rfl, a1.2.2.1, a1.1.2.2.2.1, a1.2.1, a1.1.2.1, r1, hz⟩, ⟨Or.inr rfl, a2.2.2.1, a2.1.2.2.2.1, a2.2.1, a2.1.2.1, r1, hz⟩, r2, hg, fun j j1 j2 => (g1 j j1 j2).2⟩
theorem fp_of (hz : ∀ x : Int, 0 ≤ x → x < 60 → dLt (σ.2 67 x) 1103) {sh : UInt64} (hs : sh.toNat ≤ 4607182418800017408) {x y : UInt64} (hx : dLt x 1103) (hy : dLt y 1103) : vf_n64 (FP.dsub (sgr x y) (sls x y)) ∧ vf_n64 (FP.dmul sh (sgr x y)) := by
  have g : dLt (sgr x y) 1103 := by unfold sgr; split <;> assumption
  have l : dLt (sls x y) 1103 := by unfold sls; split <;> assumption
  have m : sh.toNat % 2 ^ 63 < 1024 * 2 ^ 52 := by rw [Nat.mod_eq_of_lt (by omega)]; omega
  exact ⟨sub_n64 g l (by decide), mul_n64 m (g.mod (by decide)) (by decide) (by decide) (by decide)⟩
theorem Inv.fp (h : Inv σ N D M E) : fpB σ := by
  intro x y x1 x2 y1 y2 _ _
  have k := h.2.2.1.1 x x1 x2
  exact fp_of (σ := σ) (fun x a b => h.lt a b) (h.2.1.2.2 _ k.1 k.2) (h.lt x1 x2) (h.lt y1 y2)
theorem Inv.prt (h : Inv σ N D M E) : prtB σ := fun y y1 y2 _ => h.2.2.1.2.2.1 y y1 y2
end InvS
/-- cells that no call reads before it writes them -/
abbrev SCR : List Nat := [1, 4, 11, 16, 19, 20, 21, 22, 23, 24, 25, 26, 27, 28, 29, 30, 31, 32, 33, 34, 35, 36, 37, 38, 39, 40, 41, 42, 43, 44, 45, 46, 47, 48, 49, 50, 51, 52, 53, 54, 62, 63, 73, 74, 75, 76, 80, 81, 82, 83, 84, 85, 86, 87, 88]
theorem finS_cg {s : Int} {σ τ : ga_S} {D : Nat} (h1 : ∀ d : Int, 0 ≤ d → d < 30 → τ.1 68 (30 * s + d) = σ.1 68 (30 * s + d) ∧ τ.2 67 (30 * s + d) = σ.2 67 (30 * s + d)) (hD : D ≤ 30) (h : finS s σ D) : finS s τ D := by
  obtain ⟨G, g1, g2⟩ := h
  refine ⟨G, ?_, fun d d1 d2 => by rw [(h1 d d1 d2).2]; exact g2 d d1 d2⟩
  rw [g1]
  exact sz_congr (fun d hd => by rw [(h1 d (by omega) (by omega)).1])
theorem SD_cg {i : Int} {cnt port kind gone pins cnt2 port2 kind2 gone2 pins2 : Int → Int} {sizes sizes2 : Int → UInt64} {σ τ : ga_S} {N D : Nat} (e1 : cnt2 = cnt) (e2 : port2 = port) (e3 : kind2 = kind) (e4 : gone2 = gone) (e5 : pins2 = pins) (e6 : sizes2 = sizes) (h1 : ∀ c, 64 ≤ c → c ≤ 70 → τ.1 c = σ.1 c) (h2 : τ.2 67 = σ.2 67) (h : SD i cnt port kind gone pins sizes σ N D) : SD i cnt2 port2 kind2 gone2 pins2 sizes2 τ N D := by
  subst e1 e2 e3 e4 e5 e6
  obtain ⟨⟨a1, a2, a3, a4, a5, a6⟩, b, c, d, e⟩ := h
  refine ⟨⟨a1, by rw [h1 65 (by decide) (by decide)]; exact a2, by rw [h1 70 (by decide) (by decide)]; exact a3, by rw [h1 64 (by decide) (by decide)]; exact a4, by rw [h1 66 (by decide) (by decide), h1 68 (by decide) (by decide), h2]; exact a5, by rw [h1 69 (by decide) (by decide)]; exact a6⟩, b, c, d, finS_cg (fun d _ _ => by rw [h1 68 (by decide) (by decide), h2]; exact ⟨rfl, rfl⟩) a1.2.2.2.1 e⟩
theorem cg_unq {σ τ : ga_S} (h64 : τ.1 64 = σ.1 64) (h65 : τ.1 65 = σ.1 65) : unq τ ↔ unq σ := by
  unfold unq prtd
  rw [h64, h65]
theorem Inv_mv {σ τ : ga_S} {N D M E : Nat} (h : Inv σ N D M E) (h1 : ∀ c, c ∉ SCR → τ.1 c = σ.1 c) (h2 : τ.2 = σ.2) (h3 : ∀ j : Int, j = 14 ∨ j = 15 ∨ j = 17 ∨ j = 18 → τ.1 63 j = σ.1 63 j) : Inv τ N D M E := by
  obtain ⟨⟨a1, a2⟩, ⟨b1, b2, b3⟩, ⟨c1, c2, c3, c4⟩, ⟨d1, d2, d3, d4, d5⟩, k1, k2, k3⟩ := h
  have e : ∀ c, c ∉ SCR → τ.1 c = σ.1 c := h1
  have hc : ∀ c, 64 ≤ c → c ≤ 70 → τ.1 c = σ.1 c := fun c a b => e c (by
    rcases (show c = 64 ∨ c = 65 ∨ c = 66 ∨ c = 67 ∨ c = 68 ∨ c = 69 ∨ c = 70 by omega) with q | q | q | q | q | q | q <;> subst q <;> decide)
  refine ⟨⟨SD_cg (e 2 (by decide)) (e 3 (by decide)) (e 5 (by decide)) (e 7 (by decide)) (e 8 (by decide)) (by rw [h2]) hc (by rw [h2]) a1, SD_cg (e 9 (by decide)) (e 10 (by decide)) (e 12 (by decide)) (e 14 (by decide)) (e 15 (by decide)) (by rw [h2]) hc (by rw [h2]) a2⟩, ⟨?_, ?_, ?_⟩, ⟨?_, ?_, ?_, ?_⟩, ⟨?_, ?_, ?_, ?_, ?_⟩, ?_, ?_, ?_⟩
  · unfold agG; rw [e 17 (by decide), e 71 (by decide)]; exact b1
  · unfold agH; rw [h2]; exact b2
  · unfold shB; rw [h2]; exact b3
  · rw [e 66 (by decide)]; exact c1
  · rw [e 69 (by decide)]; exact c2
  · rw [e 64 (by decide)]; exact c3
  · exact (cg_unq (e 64 (by decide)) (e 65 (by decide))).mpr c4
  · rw [e 0 (by decide), h3 14 (by decide), h3 15 (by decide)]; exact d1
  · rw [e 60 (by decide), h3 17 (by decide)]; exact d2
  · rw [h3 17 (by decide)]; exact d3
  · rw [h3 17 (by decide)]; exact d4
  · rw [h3 17 (by decide), e 61 (by decide), e 77 (by decide)]; exact d5
  · rw [e 55 (by decide), h3 18 (by decide)]; exact k1
  · rw [h3 18 (by decide), e 56 (by decide), e 57 (by decide), e 58 (by decide), e 59 (by decide)]; exact k2
  · unfold prs at k3 ⊢
    rw [h3 18 (by decide), e 56 (by decide), e 57 (by decide), e 58 (by decide), e 59 (by decide), e 78 (by decide), e 79 (by decide), e 66 (by decide)]; exact k3
theorem Inv_cd0 {σ : ga_S} {N D M E : Nat} {c : Int} (h : Inv σ N D M E) : Inv (cd0 σ c) N D M E :=
  Inv_mv h (fun q hq => stI_ne σ _ (fun w => hq (by rw [w]; decide))) rfl (fun j hj => cd0_j (by omega))
/-- the answer laid out -/
abbrev outS (σ : ga_S) (x : Int) : ga_S := stI σ 88 (ga_up (σ.1 88) 0 x)
theorem Inv_out {σ : ga_S} {N D M E : Nat} {x : Int} (h : Inv σ N D M E) : Inv (outS σ x) N D M E :=
  Inv_mv h (fun q hq => stI_ne σ _ (fun w => hq (by rw [w]; decide))) rfl (fun j _ => rfl)
