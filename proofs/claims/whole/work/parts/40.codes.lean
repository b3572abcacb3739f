-- Classes: what the reference's cells say, and the codes of a round
def bL (β : ga_S) (x : Int) : Prop := x % 30 < β.1 70 (x / 30) ∧ β.1 68 x = 0
noncomputable def allB (β : ga_S) (s n : Int) : Int := sz (fun z => tv (β.1 68 (30 * s + z / 4) = 0 ∧ β.1 69 (120 * s + z) = n)) (4 * (β.1 70 s).toNat)
def bU (β : ga_S) (y : Int) : Prop := y % 40 < β.1 65 (y / 40) ∧ (β.1 64 y ≠ -1 ∨ 0 < allB β (y / 40) (y % 40))
/-- the cells of a side agree with side i of the reference -/
def agF (i : Int) (cnt port kind gone pins : Int → Int) (sizes : Int → UInt64) (β : ga_S) (N D : Nat) : Prop :=
  sok cnt kind pins sizes N D ∧ β.1 65 i = N ∧ β.1 70 i = D ∧ (∀ n : Int, 0 ≤ n → n < N → port n = β.1 64 (40 * i + n)) ∧ (∀ d : Int, 0 ≤ d → d < D → kind d = β.1 66 (30 * i + d) ∧ gone d = β.1 68 (30 * i + d) ∧ sizes d = β.2 67 (30 * i + d)) ∧ (∀ j : Int, 0 ≤ j → j < 4 * D → pins j = β.1 69 (120 * i + j))
def agU (i : Int) (used : Int → Int) (β : ga_S) (N : Nat) : Prop := ∀ n : Int, 0 ≤ n → n < N → (used n ≠ 0 ↔ bU β (40 * i + n))
def agG (grp : Int → Int) (β : ga_S) : Prop := ∀ j : Int, 0 ≤ j → j < 32 → grp j = β.1 71 j ∧ 0 ≤ β.1 71 j ∧ β.1 71 j < 4
def gB (β : ga_S) (z : Int) : Int := β.1 71 (β.1 66 (z / 4) * 4 + z % 4)
def nC (β : ga_S) (CN : Int → Int) (z : Int) : Int := if β.1 69 z = -1 then -1 else CN (40 * (z / 120) + β.1 69 z)
def dcode (β : ga_S) (CN : Int → Int) (z : Int) : Int := (nC β CN z + 1) * 4 + gB β z
def ncode (β : ga_S) (CD : Int → Int) (z : Int) : Int := CD (z / 4) * 4 + gB β z
def evN (β : ga_S) (y z : Int) : Prop := 0 ≤ z ∧ z < 240 ∧ bL β (z / 4) ∧ β.1 69 z ≠ -1 ∧ 40 * (z / 120) + β.1 69 z = y
def evD (β : ga_S) (x z : Int) : Prop := z / 4 = x ∧ bL β x
def DR (β : ga_S) (CN f cc : Int → Int) (e : Nat) : Prop := ∀ x : Int, 0 ≤ x → x < 60 → rowE f cc 4 x (evD β x) (dcode β CN) e
def NR (β : ga_S) (CD f cc : Int → Int) (e : Nat) : Prop := ∀ y : Int, 0 ≤ y → y < 80 → rowE f cc 120 y (evN β y) (ncode β CD) e
def pinB (β : ga_S) : Prop := ∀ z : Int, 0 ≤ z → z < 240 → bL β (z / 4) → -1 ≤ β.1 69 z ∧ β.1 69 z < 40
theorem sz_win {Q : Int → Prop} {a b : Nat} (hab : a ≤ b) (h : ∀ z : Int, Q z → a ≤ z ∧ z < b) : ∀ e : Nat, (e ≤ a ∧ sz (fun z => tv (Q z)) e = 0) ∨ (a ≤ e ∧ sz (fun z => tv (Q z)) e ≤ (e : Int) - a ∧ sz (fun z => tv (Q z)) e ≤ (b : Int) - a)
  | 0 => Or.inl ⟨Nat.zero_le _, rfl⟩
  | e + 1 => by
    rw [sz_s]
    have q := (tv_le (p := Q e)).2
    by_cases hq : Q e
    · have := h e hq
      rw [tv1 hq]
      rcases sz_win hab h e with ⟨z1, z2⟩ | ⟨z1, z2, z3⟩ <;> omega
    · rw [tvz hq]
      rcases sz_win hab h e with ⟨z1, z2⟩ | ⟨z1, z2, z3⟩ <;> omega
theorem evD_le {β : ga_S} {x : Int} (h1 : 0 ≤ x) (e : Nat) : sz (fun z => tv (evD β x z)) e ≤ 4 ∧ (e < 4 * x + 4 → sz (fun z => tv (evD β x z)) e < 4) := by
  have := sz_win (Q := evD β x) (a := 4 * x.toNat) (b := 4 * x.toNat + 4) (by omega) (fun z hz => by have := hz.1; omega) e
  omega
theorem evN_le {β : ga_S} (hp : pinB β) {y : Int} (h1 : 0 ≤ y) (e : Nat) : sz (fun z => tv (evN β y z)) e ≤ 120 ∧ (∀ q : Int, q = e → q < 240 → q / 120 = y / 40 → sz (fun z => tv (evN β y z)) e < 120) := by
  have := sz_win (Q := evN β y) (a := 120 * (y / 40).toNat) (b := 120 * (y / 40).toNat + 120) (by omega) (fun z hz => by
    obtain ⟨z1, z2, z3, z4, z5⟩ := hz
    have := hp z z1 z2 z3
    omega) e
  refine ⟨by omega, fun q h2 h3 h4 => by omega⟩
theorem DR_in {β : ga_S} {CN f cc : Int → Int} {e n : Nat} {x c : Int} (h : DR β CN f cc e) (he : (e : Int) / 4 = x) (h1 : 0 ≤ x) (h2 : x < 60) (hl : bL β x) (hn : cc x = n) (hc : c = dcode β CN e) : n < 4 ∧ DR β CN (insR (x * 4) c n f) (ga_up cc x (n + 1)) (e + 1) := by
  have hr := h x h1 h2
  have e1 : cc x = sz (fun z => tv (evD β x z)) e := hr.1
  have b := (evD_le (β := β) h1 e).2 (by omega)
  refine ⟨by omega, fun v h3 h4 => ?_⟩
  by_cases q : v = x
  · rw [q, hc]
    exact rowE_ins hr ⟨he, hl⟩ hn
  · exact rowE_no (rowE_fr (by decide) (by omega) (evD_le h3 e).1 q (h v h3 h4)) (fun z => q (by rw [← z.1, he]))
theorem NR_in {β : ga_S} {CD f cc : Int → Int} {e n : Nat} {y c : Int} (hp : pinB β) (h : NR β CD f cc e) (he : (e : Int) < 240) (hl : bL β ((e : Int) / 4)) (h9 : β.1 69 e ≠ -1) (hy : 40 * ((e : Int) / 120) + β.1 69 e = y) (hn : cc y = n) (hc : c = ncode β CD e) : n < 120 ∧ NR β CD (insR (y * 120) c n f) (ga_up cc y (n + 1)) (e + 1) := by
  have hpe := hp e (by omega) he hl
  have hr := h y (by omega) (by omega)
  have e1 : cc y = sz (fun z => tv (evN β y z)) e := hr.1
  have b := (evN_le hp (y := y) (by omega) e).2 e rfl he (by omega)
  refine ⟨by omega, fun v h3 h4 => ?_⟩
  by_cases q : v = y
  · rw [q, hc]
    exact rowE_ins hr ⟨by omega, he, hl, h9, hy⟩ hn
  · exact rowE_no (rowE_fr (by decide) (by omega) (evN_le hp h3 e).1 q (h v h3 h4)) (fun z => q (by rw [← z.2.2.2.2, hy]))
theorem DR_no {β : ga_S} {CN f cc : Int → Int} {e : Nat} (h : DR β CN f cc e) (hl : ¬ bL β ((e : Int) / 4)) : DR β CN f cc (e + 1) := fun x h1 h2 => rowE_no (h x h1 h2) (fun z => hl (by rw [z.1]; exact z.2))
theorem NR_no {β : ga_S} {CD f cc : Int → Int} {e : Nat} (h : NR β CD f cc e) (hl : bL β ((e : Int) / 4) → β.1 69 e = -1) : NR β CD f cc (e + 1) := fun y h1 h2 => rowE_no (h y h1 h2) (fun z => z.2.2.2.1 (hl z.2.2.1))
theorem DN_skip {β : ga_S} {CN CD f cc f2 cc2 : Int → Int} {e : Nat} (h : DR β CN f cc e) (g : NR β CD f2 cc2 e) : ∀ n : Nat, (∀ z : Nat, e ≤ z → z < e + n → ¬ bL β ((z : Int) / 4)) → DR β CN f cc (e + n) ∧ NR β CD f2 cc2 (e + n)
  | 0, _ => ⟨h, g⟩
  | n + 1, hz => by
    have := DN_skip h g n (fun z a b => hz z a (by omega))
    have q := hz (e + n) (by omega) (by omega)
    exact ⟨DR_no this.1 q, NR_no this.2 (fun z => absurd z q)⟩
abbrev agS_2 (σ β : ga_S) (N D : Nat) : Prop := agF 0 (σ.1 2) (σ.1 3) (σ.1 5) (σ.1 7) (σ.1 8) (σ.2 6) β N D
theorem T_X0_addCodes_2 (d : Nat) (τ0 β : ga_S) (N D : Nat) (hd : d < D) (ha : agS_2 τ0 β N D) (hg : agG (τ0.1 17) β) (hp : pinB β) (hl : bL β (30 * 0 + d)) (hD : DR β (τ0.1 30) (τ0.1 24) (τ0.1 25) (120 * 0 + 4 * d)) (hN : NR β (τ0.1 23) (τ0.1 31) (τ0.1 32) (120 * 0 + 4 * d)) (r23 : ∀ x : Int, 0 ≤ x → x < 60 → -1 ≤ τ0.1 23 x ∧ τ0.1 23 x < 60) (r30 : ∀ x : Int, 0 ≤ x → x < 80 → -1 ≤ τ0.1 30 x ∧ τ0.1 30 x < 80) : ga_Mt 1 0 0 mX0_addCodes [Vr 21, Vr 16, Vr 2, Vi 0, Vi (d : Int)] (HP τ0) (fun v h => ∃ τ, exc [24, 25, 31, 32] τ0 τ ∧ DR β (τ0.1 30) (τ.1 24) (τ.1 25) (120 * 0 + 4 * (d + 1)) ∧ NR β (τ0.1 23) (τ.1 31) (τ.1 32) (120 * 0 + 4 * (d + 1)) ∧ v = none ∧ h = HP τ) ga_nox := by
  obtain ⟨⟨hcN, hN2, hcD, hD2, hkd, hsz, hpin⟩, hbN, hbD, hport, hdev, hpb⟩ := ha
  refine ga_meth [some (Vr 21), some (Vr 16), some (Vr 2), some (Vi 0), some (Vi (d : Int)), none, none, none, none, none] rfl rfl (by decide +kernel) (Nat.le_of_ble_eq_true rfl) rfl ?_
  obtain ⟨x0, hx0⟩ : ∃ x0 : Int, x0 = 30 * 0 + d := ⟨_, rfl⟩
  refine ga_iload_n dX0_addCodes_0 rfl ?_
  refine ga_bipush dX0_addCodes_1 ⟨by decide, by decide⟩ (by decide) ?_
  refine ga_imul dX0_addCodes_3 rfl (⟨by omega, by omega⟩) ?_
  refine ga_iload dX0_addCodes_4 rfl ?_
  refine ga_iadd (z := x0) dX0_addCodes_6 (by omega) (⟨by omega, by omega⟩) ?_
  refine ga_istore (lv2 := [_, _, _, _, _, _, _, _, _, _]) dX0_addCodes_7 (by decide) rfl rfl ?_
  refine ga_iconst dX0_addCodes_9 ⟨by decide, by decide⟩ ?_
  refine ga_istore (lv2 := [_, _, _, _, _, _, _, _, _, _]) dX0_addCodes_10 (by decide) rfl rfl ?_
  have hk0 : τ0.1 5 (d : Int) = β.1 66 x0 := by rw [hx0]; exact (hdev d (by omega) (by omega)).1
  have hk1 := hkd d (by omega) (by omega)
  have r0 := r23 x0 (by omega) (by omega)
  refine (ga_loop 4 (fun k => ∀ τ a b c, exc [24, 25, 31, 32] τ0 τ → DR β (τ0.1 30) (τ.1 24) (τ.1 25) (120 * 0 + 4 * d + k) → NR β (τ0.1 23) (τ.1 31) (τ.1 32) (120 * 0 + 4 * d + k) → ga_W 1 0 0 0 0 mX0_addCodes (fun v h => ∃ τ, exc [24, 25, 31, 32] τ0 τ ∧ DR β (τ0.1 30) (τ.1 24) (τ.1 25) (120 * 0 + 4 * (d + 1)) ∧ NR β (τ0.1 23) (τ.1 31) (τ.1 32) (120 * 0 + 4 * (d + 1)) ∧ v = none ∧ h = HP τ) ga_nox 12 [some (Vr 21), some (Vr 16), some (Vr 2), some (Vi 0), some (Vi (d : Int)), some (Vi x0), some (Vi (k : Int)), a, b, c] [] (HP τ)) ?_ ?_ 0 (Nat.zero_le _) τ0 none none none exc_r hD hN : _)
  · intro τ a b c hx h1 h2
    refine ga_iload dX0_addCodes_12 rfl ?_
    refine ga_iconst dX0_addCodes_14 ⟨by decide, by decide⟩ ?_
    refine ga_icmp_ge (tgt := 122) dX0_addCodes_15 rfl (fun c_15 => ?_) (fun c_15 => ?_)
    · refine ga_ret (v := none) ?_ rfl (by decide) (by decide) ⟨dX0_addCodes_122, rfl⟩
      exact ⟨τ, hx, h1, h2, rfl, rfl⟩
    · omega
  · intro k hk ih τ a b c hx h1 h2
    have hz4 : ((120 * 0 + 4 * d + k : Nat) : Int) / 4 = x0 := by omega
    have hzm : ((120 * 0 + 4 * d + k : Nat) : Int) % 4 = k := by omega
    have hz5 : ((120 * 0 + 4 * d + k : Nat) : Int) / 120 = 0 := by omega
    have e1 : τ.1 5 (d : Int) = β.1 66 x0 := by rw [hx.1 5 (by decide)]; exact hk0
    have hk2 : 0 ≤ β.1 66 x0 ∧ β.1 66 x0 < 8 := by rw [← hk0]; exact hk1
    have hgj := hg (β.1 66 x0 * 4 + k) (by omega) (by omega)
    have e2 : τ.1 17 (β.1 66 x0 * 4 + k) = gB β ((120 * 0 + 4 * d + k : Nat) : Int) := by
      rw [hx.1 17 (by decide), hgj.1]
      unfold gB
      rw [hz4, hzm]
    have hgr : 0 ≤ gB β ((120 * 0 + 4 * d + k : Nat) : Int) ∧ gB β ((120 * 0 + 4 * d + k : Nat) : Int) < 4 := by
      rw [← e2, hx.1 17 (by decide), hgj.1]
      exact hgj.2
    have e3 : τ.1 8 ((d : Int) * 4 + k) = β.1 69 ((120 * 0 + 4 * d + k : Nat) : Int) := by
      rw [hx.1 8 (by decide), hpb _ (by omega) (by omega)]
      exact congrArg (β.1 69) (by omega)
    have hlz : bL β (((120 * 0 + 4 * d + k : Nat) : Int) / 4) := by rw [hz4, hx0]; exact hl
    have hpz := hp ((120 * 0 + 4 * d + k : Nat) : Int) (by omega) (by omega) hlz
    have TAIL : ∀ (τ : ga_S) (nc : Int) b, exc [24, 25, 31, 32] τ0 τ → nc = nC β (τ0.1 30) ((120 * 0 + 4 * d + k : Nat) : Int) → -1 ≤ nc → nc < 80 → DR β (τ0.1 30) (τ.1 24) (τ.1 25) (120 * 0 + 4 * d + k) → NR β (τ0.1 23) (τ.1 31) (τ.1 32) (120 * 0 + 4 * d + k + 1) → ga_W 1 0 0 0 0 mX0_addCodes (fun v h => ∃ τ, exc [24, 25, 31, 32] τ0 τ ∧ DR β (τ0.1 30) (τ.1 24) (τ.1 25) (120 * 0 + 4 * (d + 1)) ∧ NR β (τ0.1 23) (τ.1 31) (τ.1 32) (120 * 0 + 4 * (d + 1)) ∧ v = none ∧ h = HP τ) ga_nox 98 [some (Vr 21), some (Vr 16), some (Vr 2), some (Vi 0), some (Vi (d : Int)), some (Vi x0), some (Vi (k : Int)), some (Vi (gB β ((120 * 0 + 4 * d + k : Nat) : Int))), b, some (Vi nc)] [] (HP τ) := by
      intro τ nc b hx hnc n1 n2 h1 h2
      have hr := (h1 x0 (by omega) (by omega)).1
      have hr2 := (h1 x0 (by omega) (by omega)).2.1
      have hin := DR_in (n := (τ.1 25 x0).toNat) (c := (nc + 1) * 4 + gB β ((120 * 0 + 4 * d + k : Nat) : Int)) h1 hz4 (by omega) (by omega) (by rw [hx0]; exact hl) (by omega) (by rw [hnc]; rfl)
      refine ga_aload_n dX0_addCodes_98 rfl ?_
      refine hg_getR grX0_14 dX0_addCodes_99 rfl rfl ?_
      refine ga_iload dX0_addCodes_102 rfl ?_
      refine ga_iload dX0_addCodes_104 rfl ?_
      refine ga_iconst dX0_addCodes_106 ⟨by decide, by decide⟩ ?_
      refine ga_iadd dX0_addCodes_107 rfl (⟨by omega, by omega⟩) ?_
      refine ga_iconst dX0_addCodes_108 ⟨by decide, by decide⟩ ?_
      refine ga_imul dX0_addCodes_109 rfl (⟨by omega, by omega⟩) ?_
      refine ga_iload dX0_addCodes_110 rfl ?_
      refine ga_iadd dX0_addCodes_112 rfl (⟨by omega, by omega⟩) ?_
      refine hc_Vv (T_X7_addCode_22 x0 _ τ (τ.1 25 x0).toNat (by omega) (by omega) (by omega) hin.1) fX7_addCode rfl kX7_addCode lkX0_115 dX0_addCodes_113 rfl rfl rfl rfl rfl rfl rfl rfl ?_
      refine ga_iinc (z := ((k + 1 : Nat) : Int)) (lv2 := [_, _, _, _, _, _, _, _, _, _]) dX0_addCodes_116 (by decide) rfl rfl (by omega) (⟨by omega, by omega⟩) rfl ?_
      refine ga_goto (tgt := 12) dX0_addCodes_119 rfl ?_
      exact ih _ _ _ _ (exc_st (exc_st hx (by decide)) (by decide)) hin.2 h2
    refine ga_iload dX0_addCodes_12 rfl ?_
    refine ga_iconst dX0_addCodes_14 ⟨by decide, by decide⟩ ?_
    refine ga_icmp_ge (tgt := 122) dX0_addCodes_15 rfl (fun c_15 => ?_) (fun c_15 => ?_)
    · omega
    · refine ga_aload_n dX0_addCodes_18 rfl ?_
      refine ga_aload_n dX0_addCodes_19 rfl ?_
      refine hg_getR grX0_77 dX0_addCodes_20 rfl rfl ?_
      refine ga_iload dX0_addCodes_23 rfl ?_
      refine hg_iald dX0_addCodes_25 rfl (by omega) (by omega) ?_
      refine ga_iload dX0_addCodes_26 rfl ?_
      rw [e1]
      refine hc_V (T_X4_groupOf (β.1 66 x0) k τ hk2.1 hk2.2 (by omega) (by omega)) fX4_groupOf rfl kX4_groupOf lkX0_107 dX0_addCodes_28 rfl rfl rfl rfl rfl rfl rfl rfl ?_
      rw [e2]
      refine ga_istore (lv2 := [_, _, _, _, _, _, _, _, _, _]) dX0_addCodes_31 (by decide) rfl rfl ?_
      refine ga_aload_n dX0_addCodes_33 rfl ?_
      refine ga_iload dX0_addCodes_34 rfl ?_
      refine ga_iload dX0_addCodes_36 rfl ?_
      refine hc_V (T_X9_netOf_2 d k τ (by omega) (by omega) (by omega) (by omega)) fX9_netOf rfl kX9_netOf lkX0_112 dX0_addCodes_38 rfl rfl rfl rfl rfl rfl rfl rfl ?_
      rw [e3]
      refine ga_istore (lv2 := [_, _, _, _, _, _, _, _, _, _]) dX0_addCodes_41 (by decide) rfl rfl ?_
      refine ga_iconst dX0_addCodes_43 ⟨by decide, by decide⟩ ?_
      refine ga_istore (lv2 := [_, _, _, _, _, _, _, _, _, _]) dX0_addCodes_44 (by decide) rfl rfl ?_
      refine ga_iload dX0_addCodes_46 rfl ?_
      refine ga_iconst dX0_addCodes_48 ⟨by decide, by decide⟩ ?_
      refine ga_icmp_eq (tgt := 98) dX0_addCodes_49 rfl (fun c_49 => ?_) (fun c_49 => ?_)
      · have c9 : β.1 69 ((120 * 0 + 4 * d + k : Nat) : Int) = -1 := c_49
        exact TAIL τ (-1) _ hx (by unfold nC; rw [if_pos c9]) (by decide) (by decide) h1 (NR_no h2 (fun _ => c9))
      · have c9 : ¬ β.1 69 ((120 * 0 + 4 * d + k : Nat) : Int) = -1 := c_49
        obtain ⟨y0, hy0⟩ : ∃ y0 : Int, y0 = 40 * 0 + β.1 69 ((120 * 0 + 4 * d + k : Nat) : Int) := ⟨_, rfl⟩
        have r1 := r30 y0 (by omega) (by omega)
        have hr := (h2 y0 (by omega) (by omega)).1
        have hr2 := (h2 y0 (by omega) (by omega)).2.1
        have hin := NR_in (n := (τ.1 32 y0).toNat) (y := y0) (c := τ0.1 23 x0 * 4 + gB β ((120 * 0 + 4 * d + k : Nat) : Int)) hp h2 (by omega) hlz c9 (by omega) (by omega) (by unfold ncode; rw [hz4])
        refine ga_aload_n dX0_addCodes_52 rfl ?_
        refine hg_getR grX0_20 dX0_addCodes_53 rfl rfl ?_
        refine hg_getR grX0_55 dX0_addCodes_56 rfl rfl ?_
        refine ga_iload_n dX0_addCodes_59 rfl ?_
        refine ga_bipush dX0_addCodes_60 ⟨by decide, by decide⟩ (by decide) ?_
        refine ga_imul dX0_addCodes_62 rfl (⟨by omega, by omega⟩) ?_
        refine ga_iload dX0_addCodes_63 rfl ?_
        refine ga_iadd (z := y0) dX0_addCodes_65 (by omega) (⟨by omega, by omega⟩) ?_
        refine hg_iald dX0_addCodes_66 rfl (by omega) (by omega) ?_
        rw [hx.1 30 (by decide)]
        refine ga_istore (lv2 := [_, _, _, _, _, _, _, _, _, _]) dX0_addCodes_67 (by decide) rfl rfl ?_
        refine ga_aload_n dX0_addCodes_69 rfl ?_
        refine hg_getR grX0_20 dX0_addCodes_70 rfl rfl ?_
        refine ga_iload_n dX0_addCodes_73 rfl ?_
        refine ga_bipush dX0_addCodes_74 ⟨by decide, by decide⟩ (by decide) ?_
        refine ga_imul dX0_addCodes_76 rfl (⟨by omega, by omega⟩) ?_
        refine ga_iload dX0_addCodes_77 rfl ?_
        refine ga_iadd (z := y0) dX0_addCodes_79 (by omega) (⟨by omega, by omega⟩) ?_
        refine ga_aload_n dX0_addCodes_80 rfl ?_
        refine hg_getR grX0_14 dX0_addCodes_81 rfl rfl ?_
        refine hg_getR grX0_55 dX0_addCodes_84 rfl rfl ?_
        refine ga_iload dX0_addCodes_87 rfl ?_
        refine hg_iald dX0_addCodes_89 rfl (by omega) (by omega) ?_
        rw [hx.1 23 (by decide)]
        refine ga_iconst dX0_addCodes_90 ⟨by decide, by decide⟩ ?_
        refine ga_imul dX0_addCodes_91 rfl (⟨by omega, by omega⟩) ?_
        refine ga_iload dX0_addCodes_92 rfl ?_
        refine ga_iadd dX0_addCodes_94 rfl (⟨by omega, by omega⟩) ?_
        refine hc_Vv (T_X7_addCode_29 y0 _ τ (τ.1 32 y0).toNat (by omega) (by omega) (by omega) hin.1) fX7_addCode rfl kX7_addCode lkX0_115 dX0_addCodes_95 rfl rfl rfl rfl rfl rfl rfl rfl ?_
        exact TAIL _ (τ0.1 30 y0) _ (exc_st (exc_st hx (by decide)) (by decide)) (by unfold nC; rw [if_neg c9, hz5, hy0]) r1.1 r1.2 h1 hin.2
abbrev agS_9 (σ β : ga_S) (N D : Nat) : Prop := agF 1 (σ.1 9) (σ.1 10) (σ.1 12) (σ.1 14) (σ.1 15) (σ.2 13) β N D
theorem T_X0_addCodes_9 (d : Nat) (τ0 β : ga_S) (N D : Nat) (hd : d < D) (ha : agS_9 τ0 β N D) (hg : agG (τ0.1 17) β) (hp : pinB β) (hl : bL β (30 * 1 + d)) (hD : DR β (τ0.1 30) (τ0.1 24) (τ0.1 25) (120 * 1 + 4 * d)) (hN : NR β (τ0.1 23) (τ0.1 31) (τ0.1 32) (120 * 1 + 4 * d)) (r23 : ∀ x : Int, 0 ≤ x → x < 60 → -1 ≤ τ0.1 23 x ∧ τ0.1 23 x < 60) (r30 : ∀ x : Int, 0 ≤ x → x < 80 → -1 ≤ τ0.1 30 x ∧ τ0.1 30 x < 80) : ga_Mt 1 0 0 mX0_addCodes [Vr 21, Vr 16, Vr 9, Vi 1, Vi (d : Int)] (HP τ0) (fun v h => ∃ τ, exc [24, 25, 31, 32] τ0 τ ∧ DR β (τ0.1 30) (τ.1 24) (τ.1 25) (120 * 1 + 4 * (d + 1)) ∧ NR β (τ0.1 23) (τ.1 31) (τ.1 32) (120 * 1 + 4 * (d + 1)) ∧ v = none ∧ h = HP τ) ga_nox := by
  obtain ⟨⟨hcN, hN2, hcD, hD2, hkd, hsz, hpin⟩, hbN, hbD, hport, hdev, hpb⟩ := ha
  refine ga_meth [some (Vr 21), some (Vr 16), some (Vr 9), some (Vi 1), some (Vi (d : Int)), none, none, none, none, none] rfl rfl (by decide +kernel) (Nat.le_of_ble_eq_true rfl) rfl ?_
  obtain ⟨x0, hx0⟩ : ∃ x0 : Int, x0 = 30 * 1 + d := ⟨_, rfl⟩
  refine ga_iload_n dX0_addCodes_0 rfl ?_
  refine ga_bipush dX0_addCodes_1 ⟨by decide, by decide⟩ (by decide) ?_
  refine ga_imul dX0_addCodes_3 rfl (⟨by omega, by omega⟩) ?_
  refine ga_iload dX0_addCodes_4 rfl ?_
  refine ga_iadd (z := x0) dX0_addCodes_6 (by omega) (⟨by omega, by omega⟩) ?_
  refine ga_istore (lv2 := [_, _, _, _, _, _, _, _, _, _]) dX0_addCodes_7 (by decide) rfl rfl ?_
  refine ga_iconst dX0_addCodes_9 ⟨by decide, by decide⟩ ?_
  refine ga_istore (lv2 := [_, _, _, _, _, _, _, _, _, _]) dX0_addCodes_10 (by decide) rfl rfl ?_
  have hk0 : τ0.1 12 (d : Int) = β.1 66 x0 := by rw [hx0]; exact (hdev d (by omega) (by omega)).1
  have hk1 := hkd d (by omega) (by omega)
  have r0 := r23 x0 (by omega) (by omega)
  refine (ga_loop 4 (fun k => ∀ τ a b c, exc [24, 25, 31, 32] τ0 τ → DR β (τ0.1 30) (τ.1 24) (τ.1 25) (120 * 1 + 4 * d + k) → NR β (τ0.1 23) (τ.1 31) (τ.1 32) (120 * 1 + 4 * d + k) → ga_W 1 0 0 0 0 mX0_addCodes (fun v h => ∃ τ, exc [24, 25, 31, 32] τ0 τ ∧ DR β (τ0.1 30) (τ.1 24) (τ.1 25) (120 * 1 + 4 * (d + 1)) ∧ NR β (τ0.1 23) (τ.1 31) (τ.1 32) (120 * 1 + 4 * (d + 1)) ∧ v = none ∧ h = HP τ) ga_nox 12 [some (Vr 21), some (Vr 16), some (Vr 9), some (Vi 1), some (Vi (d : Int)), some (Vi x0), some (Vi (k : Int)), a, b, c] [] (HP τ)) ?_ ?_ 0 (Nat.zero_le _) τ0 none none none exc_r hD hN : _)
  · intro τ a b c hx h1 h2
    refine ga_iload dX0_addCodes_12 rfl ?_
    refine ga_iconst dX0_addCodes_14 ⟨by decide, by decide⟩ ?_
    refine ga_icmp_ge (tgt := 122) dX0_addCodes_15 rfl (fun c_15 => ?_) (fun c_15 => ?_)
    · refine ga_ret (v := none) ?_ rfl (by decide) (by decide) ⟨dX0_addCodes_122, rfl⟩
      exact ⟨τ, hx, h1, h2, rfl, rfl⟩
    · omega
  · intro k hk ih τ a b c hx h1 h2
    have hz4 : ((120 * 1 + 4 * d + k : Nat) : Int) / 4 = x0 := by omega
    have hzm : ((120 * 1 + 4 * d + k : Nat) : Int) % 4 = k := by omega
    have hz5 : ((120 * 1 + 4 * d + k : Nat) : Int) / 120 = 1 := by omega
    have e1 : τ.1 12 (d : Int) = β.1 66 x0 := by rw [hx.1 12 (by decide)]; exact hk0
    have hk2 : 0 ≤ β.1 66 x0 ∧ β.1 66 x0 < 8 := by rw [← hk0]; exact hk1
    have hgj := hg (β.1 66 x0 * 4 + k) (by omega) (by omega)
    have e2 : τ.1 17 (β.1 66 x0 * 4 + k) = gB β ((120 * 1 + 4 * d + k : Nat) : Int) := by
      rw [hx.1 17 (by decide), hgj.1]
      unfold gB
      rw [hz4, hzm]
    have hgr : 0 ≤ gB β ((120 * 1 + 4 * d + k : Nat) : Int) ∧ gB β ((120 * 1 + 4 * d + k : Nat) : Int) < 4 := by
      rw [← e2, hx.1 17 (by decide), hgj.1]
      exact hgj.2
    have e3 : τ.1 15 ((d : Int) * 4 + k) = β.1 69 ((120 * 1 + 4 * d + k : Nat) : Int) := by
      rw [hx.1 15 (by decide), hpb _ (by omega) (by omega)]
      exact congrArg (β.1 69) (by omega)
    have hlz : bL β (((120 * 1 + 4 * d + k : Nat) : Int) / 4) := by rw [hz4, hx0]; exact hl
    have hpz := hp ((120 * 1 + 4 * d + k : Nat) : Int) (by omega) (by omega) hlz
    have TAIL : ∀ (τ : ga_S) (nc : Int) b, exc [24, 25, 31, 32] τ0 τ → nc = nC β (τ0.1 30) ((120 * 1 + 4 * d + k : Nat) : Int) → -1 ≤ nc → nc < 80 → DR β (τ0.1 30) (τ.1 24) (τ.1 25) (120 * 1 + 4 * d + k) → NR β (τ0.1 23) (τ.1 31) (τ.1 32) (120 * 1 + 4 * d + k + 1) → ga_W 1 0 0 0 0 mX0_addCodes (fun v h => ∃ τ, exc [24, 25, 31, 32] τ0 τ ∧ DR β (τ0.1 30) (τ.1 24) (τ.1 25) (120 * 1 + 4 * (d + 1)) ∧ NR β (τ0.1 23) (τ.1 31) (τ.1 32) (120 * 1 + 4 * (d + 1)) ∧ v = none ∧ h = HP τ) ga_nox 98 [some (Vr 21), some (Vr 16), some (Vr 9), some (Vi 1), some (Vi (d : Int)), some (Vi x0), some (Vi (k : Int)), some (Vi (gB β ((120 * 1 + 4 * d + k : Nat) : Int))), b, some (Vi nc)] [] (HP τ) := by
      intro τ nc b hx hnc n1 n2 h1 h2
      have hr := (h1 x0 (by omega) (by omega)).1
      have hr2 := (h1 x0 (by omega) (by omega)).2.1
      have hin := DR_in (n := (τ.1 25 x0).toNat) (c := (nc + 1) * 4 + gB β ((120 * 1 + 4 * d + k : Nat) : Int)) h1 hz4 (by omega) (by omega) (by rw [hx0]; exact hl) (by omega) (by rw [hnc]; rfl)
      refine ga_aload_n dX0_addCodes_98 rfl ?_
      refine hg_getR grX0_14 dX0_addCodes_99 rfl rfl ?_
      refine ga_iload dX0_addCodes_102 rfl ?_
      refine ga_iload dX0_addCodes_104 rfl ?_
      refine ga_iconst dX0_addCodes_106 ⟨by decide, by decide⟩ ?_
      refine ga_iadd dX0_addCodes_107 rfl (⟨by omega, by omega⟩) ?_
      refine ga_iconst dX0_addCodes_108 ⟨by decide, by decide⟩ ?_
      refine ga_imul dX0_addCodes_109 rfl (⟨by omega, by omega⟩) ?_
      refine ga_iload dX0_addCodes_110 rfl ?_
      refine ga_iadd dX0_addCodes_112 rfl (⟨by omega, by omega⟩) ?_
      refine hc_Vv (T_X7_addCode_22 x0 _ τ (τ.1 25 x0).toNat (by omega) (by omega) (by omega) hin.1) fX7_addCode rfl kX7_addCode lkX0_115 dX0_addCodes_113 rfl rfl rfl rfl rfl rfl rfl rfl ?_
      refine ga_iinc (z := ((k + 1 : Nat) : Int)) (lv2 := [_, _, _, _, _, _, _, _, _, _]) dX0_addCodes_116 (by decide) rfl rfl (by omega) (⟨by omega, by omega⟩) rfl ?_
      refine ga_goto (tgt := 12) dX0_addCodes_119 rfl ?_
      exact ih _ _ _ _ (exc_st (exc_st hx (by decide)) (by decide)) hin.2 h2
    refine ga_iload dX0_addCodes_12 rfl ?_
    refine ga_iconst dX0_addCodes_14 ⟨by decide, by decide⟩ ?_
    refine ga_icmp_ge (tgt := 122) dX0_addCodes_15 rfl (fun c_15 => ?_) (fun c_15 => ?_)
    · omega
    · refine ga_aload_n dX0_addCodes_18 rfl ?_
      refine ga_aload_n dX0_addCodes_19 rfl ?_
      refine hg_getR grX0_77 dX0_addCodes_20 rfl rfl ?_
      refine ga_iload dX0_addCodes_23 rfl ?_
      refine hg_iald dX0_addCodes_25 rfl (by omega) (by omega) ?_
      refine ga_iload dX0_addCodes_26 rfl ?_
      rw [e1]
      refine hc_V (T_X4_groupOf (β.1 66 x0) k τ hk2.1 hk2.2 (by omega) (by omega)) fX4_groupOf rfl kX4_groupOf lkX0_107 dX0_addCodes_28 rfl rfl rfl rfl rfl rfl rfl rfl ?_
      rw [e2]
      refine ga_istore (lv2 := [_, _, _, _, _, _, _, _, _, _]) dX0_addCodes_31 (by decide) rfl rfl ?_
      refine ga_aload_n dX0_addCodes_33 rfl ?_
      refine ga_iload dX0_addCodes_34 rfl ?_
      refine ga_iload dX0_addCodes_36 rfl ?_
      refine hc_V (T_X9_netOf_9 d k τ (by omega) (by omega) (by omega) (by omega)) fX9_netOf rfl kX9_netOf lkX0_112 dX0_addCodes_38 rfl rfl rfl rfl rfl rfl rfl rfl ?_
      rw [e3]
      refine ga_istore (lv2 := [_, _, _, _, _, _, _, _, _, _]) dX0_addCodes_41 (by decide) rfl rfl ?_
      refine ga_iconst dX0_addCodes_43 ⟨by decide, by decide⟩ ?_
      refine ga_istore (lv2 := [_, _, _, _, _, _, _, _, _, _]) dX0_addCodes_44 (by decide) rfl rfl ?_
      refine ga_iload dX0_addCodes_46 rfl ?_
      refine ga_iconst dX0_addCodes_48 ⟨by decide, by decide⟩ ?_
      refine ga_icmp_eq (tgt := 98) dX0_addCodes_49 rfl (fun c_49 => ?_) (fun c_49 => ?_)
      · have c9 : β.1 69 ((120 * 1 + 4 * d + k : Nat) : Int) = -1 := c_49
        exact TAIL τ (-1) _ hx (by unfold nC; rw [if_pos c9]) (by decide) (by decide) h1 (NR_no h2 (fun _ => c9))
      · have c9 : ¬ β.1 69 ((120 * 1 + 4 * d + k : Nat) : Int) = -1 := c_49
        obtain ⟨y0, hy0⟩ : ∃ y0 : Int, y0 = 40 * 1 + β.1 69 ((120 * 1 + 4 * d + k : Nat) : Int) := ⟨_, rfl⟩
        have r1 := r30 y0 (by omega) (by omega)
        have hr := (h2 y0 (by omega) (by omega)).1
        have hr2 := (h2 y0 (by omega) (by omega)).2.1
        have hin := NR_in (n := (τ.1 32 y0).toNat) (y := y0) (c := τ0.1 23 x0 * 4 + gB β ((120 * 1 + 4 * d + k : Nat) : Int)) hp h2 (by omega) hlz c9 (by omega) (by omega) (by unfold ncode; rw [hz4])
        refine ga_aload_n dX0_addCodes_52 rfl ?_
        refine hg_getR grX0_20 dX0_addCodes_53 rfl rfl ?_
        refine hg_getR grX0_55 dX0_addCodes_56 rfl rfl ?_
        refine ga_iload_n dX0_addCodes_59 rfl ?_
        refine ga_bipush dX0_addCodes_60 ⟨by decide, by decide⟩ (by decide) ?_
        refine ga_imul dX0_addCodes_62 rfl (⟨by omega, by omega⟩) ?_
        refine ga_iload dX0_addCodes_63 rfl ?_
        refine ga_iadd (z := y0) dX0_addCodes_65 (by omega) (⟨by omega, by omega⟩) ?_
        refine hg_iald dX0_addCodes_66 rfl (by omega) (by omega) ?_
        rw [hx.1 30 (by decide)]
        refine ga_istore (lv2 := [_, _, _, _, _, _, _, _, _, _]) dX0_addCodes_67 (by decide) rfl rfl ?_
        refine ga_aload_n dX0_addCodes_69 rfl ?_
        refine hg_getR grX0_20 dX0_addCodes_70 rfl rfl ?_
        refine ga_iload_n dX0_addCodes_73 rfl ?_
        refine ga_bipush dX0_addCodes_74 ⟨by decide, by decide⟩ (by decide) ?_
        refine ga_imul dX0_addCodes_76 rfl (⟨by omega, by omega⟩) ?_
        refine ga_iload dX0_addCodes_77 rfl ?_
        refine ga_iadd (z := y0) dX0_addCodes_79 (by omega) (⟨by omega, by omega⟩) ?_
        refine ga_aload_n dX0_addCodes_80 rfl ?_
        refine hg_getR grX0_14 dX0_addCodes_81 rfl rfl ?_
        refine hg_getR grX0_55 dX0_addCodes_84 rfl rfl ?_
        refine ga_iload dX0_addCodes_87 rfl ?_
        refine hg_iald dX0_addCodes_89 rfl (by omega) (by omega) ?_
        rw [hx.1 23 (by decide)]
        refine ga_iconst dX0_addCodes_90 ⟨by decide, by decide⟩ ?_
        refine ga_imul dX0_addCodes_91 rfl (⟨by omega, by omega⟩) ?_
        refine ga_iload dX0_addCodes_92 rfl ?_
        refine ga_iadd dX0_addCodes_94 rfl (⟨by omega, by omega⟩) ?_
        refine hc_Vv (T_X7_addCode_29 y0 _ τ (τ.1 32 y0).toNat (by omega) (by omega) (by omega) hin.1) fX7_addCode rfl kX7_addCode lkX0_115 dX0_addCodes_95 rfl rfl rfl rfl rfl rfl rfl rfl ?_
        exact TAIL _ (τ0.1 30 y0) _ (exc_st (exc_st hx (by decide)) (by decide)) (by unfold nC; rw [if_neg c9, hz5, hy0]) r1.1 r1.2 h1 hin.2
