-- Classes: what all of the designs say, and the classes before the first round
def dsg (σ β : ga_S) (N D M E : Nat) : Prop := agS_2 σ β N D ∧ agS_9 σ β M E ∧ agG (σ.1 17) β ∧ agU 0 (σ.1 4) β N ∧ agU 1 (σ.1 11) β M
theorem dsg_exc {L : List Nat} {σ τ β : ga_S} {N D M E : Nat} (h : exc L σ τ) (hL : ∀ c, c ≤ 17 → c ∉ L) (g : dsg σ β N D M E) : dsg τ β N D M E := by
  unfold dsg agS_2 agS_9 at g ⊢
  rw [h.1 2 (hL 2 (by decide)), h.1 3 (hL 3 (by decide)), h.1 4 (hL 4 (by decide)), h.1 5 (hL 5 (by decide)), h.1 7 (hL 7 (by decide)), h.1 8 (hL 8 (by decide)), h.1 9 (hL 9 (by decide)), h.1 10 (hL 10 (by decide)), h.1 11 (hL 11 (by decide)), h.1 12 (hL 12 (by decide)), h.1 14 (hL 14 (by decide)), h.1 15 (hL 15 (by decide)), h.1 17 (hL 17 (by decide)), h.2]
  exact g
theorem agF_live {i : Int} {cnt port kind gone pins : Int → Int} {sizes : Int → UInt64} {β : ga_S} {N D : Nat} (h : agF i cnt port kind gone pins sizes β N D) {d : Int} (h1 : 0 ≤ d) (h2 : d < D) : bL β (30 * i + d) ↔ gone d = 0 := by
  obtain ⟨⟨_, _, _, hD, _, _, _⟩, _, hbD, _, hdev, _⟩ := h
  unfold bL
  rw [show (30 * i + d) % 30 = d by omega, show (30 * i + d) / 30 = i by omega, hbD, (hdev d h1 h2).2.1]
  exact ⟨fun z => z.2, fun z => ⟨h2, z⟩⟩
theorem agF_dead {i : Int} {cnt port kind gone pins : Int → Int} {sizes : Int → UInt64} {β : ga_S} {N D : Nat} (h : agF i cnt port kind gone pins sizes β N D) {d : Int} (h1 : D ≤ d) (h2 : d < 30) : ¬ bL β (30 * i + d) := by
  obtain ⟨_, _, hbD, _, _, _⟩ := h
  unfold bL
  rw [show (30 * i + d) % 30 = d by omega, show (30 * i + d) / 30 = i by omega, hbD]
  exact fun z => by omega
theorem agF_un {i : Int} {cnt port kind gone pins : Int → Int} {sizes : Int → UInt64} {β : ga_S} {N D : Nat} (h : agF i cnt port kind gone pins sizes β N D) {n : Int} (h1 : N ≤ n) (h2 : n < 40) : ¬ bU β (40 * i + n) := by
  obtain ⟨_, hbN, _, _, _, _⟩ := h
  unfold bU
  rw [show (40 * i + n) % 40 = n by omega, show (40 * i + n) / 40 = i by omega, hbN]
  exact fun z => by omega
theorem agF_pin {i : Int} {cnt port kind gone pins : Int → Int} {sizes : Int → UInt64} {β : ga_S} {N D : Nat} (h : agF i cnt port kind gone pins sizes β N D) {z : Int} (h1 : 120 * i ≤ z) (h2 : z < 120 * i + 120) (hl : bL β (z / 4)) : z < 120 * i + 4 * D ∧ -1 ≤ β.1 69 z ∧ β.1 69 z < N ∧ N ≤ 40 ∧ 0 ≤ β.1 66 (z / 4) ∧ β.1 66 (z / 4) < 8 ∧ (β.1 69 z ≠ -1 → bU β (40 * i + β.1 69 z)) := by
  have hdd := fun d h3 h4 => agF_dead h (d := d) h3 h4
  obtain ⟨⟨hcN, hN2, hcD, hD2, hkd, hsz, hpin⟩, hbN, hbD, hport, hdev, hpb⟩ := h
  have e1 : z / 4 - 30 * i < D := by
    rcases Int.lt_or_le (z / 4 - 30 * i) D with q | q
    · exact q
    · exact absurd hl (by
        have := hdd (z / 4 - 30 * i) q (by omega)
        rw [show 30 * i + (z / 4 - 30 * i) = z / 4 by omega] at this
        exact this)
  have p1 := hpb (z - 120 * i) (by omega) (by omega)
  rw [show 120 * i + (z - 120 * i) = z by omega] at p1
  have p2 := hpin (z - 120 * i) (by omega) (by omega)
  have k1 := (hdev (z / 4 - 30 * i) (by omega) e1).1
  rw [show 30 * i + (z / 4 - 30 * i) = z / 4 by omega] at k1
  have k2 := hkd (z / 4 - 30 * i) (by omega) e1
  refine ⟨by omega, by omega, by omega, hN2, by omega, by omega, fun q => ?_⟩
  unfold bU
  rw [show (40 * i + β.1 69 z) % 40 = β.1 69 z by omega, show (40 * i + β.1 69 z) / 40 = i by omega, hbN]
  refine ⟨by omega, Or.inr ?_⟩
  unfold allB
  rw [hbD, Int.toNat_natCast]
  refine sz_ge1 (P := fun w => β.1 68 (30 * i + w / 4) = 0 ∧ β.1 69 (120 * i + w) = β.1 69 z) (i := (z - 120 * i).toNat) (by omega) ?_
  rw [Int.toNat_of_nonneg (by omega), show 120 * i + (z - 120 * i) = z by omega, show 30 * i + (z - 120 * i) / 4 = z / 4 by omega]
  exact ⟨hl.2, rfl⟩
theorem dsg_all {σ β : ga_S} {N D M E : Nat} (h : dsg σ β N D M E) : pinB β ∧ usdB β ∧ grpB β := by
  obtain ⟨h1, h2, hg, _, _⟩ := h
  refine ⟨fun z z1 z2 z3 => ?_, fun z z1 z2 z3 z4 => ?_, fun z z1 z2 z3 => ?_⟩
  · rcases Int.lt_or_le z 120 with q | q
    · have := agF_pin h1 (z := z) (by omega) (by omega) z3; omega
    · have := agF_pin h2 (z := z) (by omega) (by omega) z3; omega
  · rcases Int.lt_or_le z 120 with q | q
    · have := (agF_pin h1 (z := z) (by omega) (by omega) z3).2.2.2.2.2.2 z4
      rw [show z / 120 = 0 by omega]; exact this
    · have := (agF_pin h2 (z := z) (by omega) (by omega) z3).2.2.2.2.2.2 z4
      rw [show z / 120 = 1 by omega]; exact this
  · unfold gB
    rcases Int.lt_or_le z 120 with q | q
    · have := agF_pin h1 (z := z) (by omega) (by omega) z3
      exact (hg _ (by omega) (by omega)).2
    · have := agF_pin h2 (z := z) (by omega) (by omega) z3
      exact (hg _ (by omega) (by omega)).2
/-- those of L before e have come in -/
def EI (L : Int → Prop) (kd f cc cl : Int → Int) (K : Int) (T e : Nat) : Prop := ∀ x : Int, 0 ≤ x → x < T → (x < e → L x → cl x = 0 ∧ cc x = 1 ∧ f (x * K) = kd x) ∧ (¬ (x < e ∧ L x) → cl x = -1 ∧ cc x = 0)
theorem EI_in {L : Int → Prop} {kd f cc cl : Int → Int} {K x c : Int} {T e : Nat} (h : EI L kd f cc cl K T e) (hx : x = e) (hT : e < T) (hK : 0 < K) (hl : L x) (hc : c = kd x) : cc x = ((0 : Nat) : Int) ∧ EI L kd (insR (x * K) c 0 f) (ga_up cc x (((0 : Nat) : Int) + 1)) (ga_up cl x 0) K T (e + 1) := by
  refine ⟨((h x (by omega) (by omega)).2 (fun z => by omega)).2, fun v h1 h2 => ⟨fun h3 h4 => ?_, fun h3 => ?_⟩⟩
  · by_cases q : v = x
    · rw [q, ga_up_at, ga_up_at]
      unfold insR
      rw [ga_up_at]
      exact ⟨rfl, rfl, hc⟩
    · rw [ga_up_ne _ _ q, ga_up_ne _ _ q]
      unfold insR
      rw [ga_up_ne _ _ (fun z => q (Int.eq_of_mul_eq_mul_right (by omega) z))]
      exact (h v h1 h2).1 (by omega) h4
  · have q : v ≠ x := fun z => h3 ⟨by omega, by rw [z]; exact hl⟩
    rw [ga_up_ne _ _ q, ga_up_ne _ _ q]
    exact (h v h1 h2).2 (fun z => h3 ⟨by omega, z.2⟩)
theorem EI_no {L : Int → Prop} {kd f cc cl : Int → Int} {K : Int} {T e : Nat} (h : EI L kd f cc cl K T e) (hl : ¬ L e) : EI L kd f cc cl K T (e + 1) := by
  intro v h1 h2
  by_cases q : v = e
  · exact ⟨fun _ h4 => absurd h4 (by rw [q]; exact hl), fun _ => (h v h1 h2).2 (fun z => by omega)⟩
  · exact ⟨fun h3 h4 => (h v h1 h2).1 (by omega) h4, fun h3 => (h v h1 h2).2 (fun z => h3 ⟨by omega, z.2⟩)⟩
theorem EI_skip {L : Int → Prop} {kd f cc cl : Int → Int} {K : Int} {T e : Nat} (h : EI L kd f cc cl K T e) : ∀ n : Nat, (∀ z : Nat, e ≤ z → z < e + n → ¬ L z) → EI L kd f cc cl K T (e + n)
  | 0, _ => h
  | n + 1, hz => EI_no (EI_skip h n (fun z a b => hz z a (by omega))) (hz (e + n) (by omega) (by omega))
theorem EI_numb {L : Int → Prop} {kd f cc cl C2 : Int → Int} {K P : Int} {T : Nat} (h : EI L kd f cc cl K T T) (hs : spl cl (sE cl f cc K) T C2 P) : numb T L C2 P kd := by
  refine numb_spl (fun x a b => ?_) (fun x u a b c d e g => ?_) hs
  · constructor
    · intro q
      exact Classical.not_not.mp (fun z => q ((h x a b).2 (fun y => z y.2)).1)
    · intro q
      rw [((h x a b).1 b q).1]
      decide
  · obtain ⟨x1, x2, x3⟩ := (h x a b).1 b e
    obtain ⟨u1, u2, u3⟩ := (h u c d).1 d g
    unfold sE smC
    rw [x1, x2, u1, u2, ← x3, ← u3]
    constructor
    · rintro ⟨_, _, q⟩
      have := q 0 (by decide)
      rw [show x * K + ((0 : Nat) : Int) = x * K by omega, show u * K + ((0 : Nat) : Int) = u * K by omega] at this
      exact this
    · intro q
      refine ⟨rfl, rfl, fun i hi => ?_⟩
      rw [show x * K + (i : Int) = x * K by omega, show u * K + (i : Int) = u * K by omega]
      exact q
theorem EI_rng {L : Int → Prop} {kd f cc cl : Int → Int} {K : Int} {T e : Nat} (h : EI L kd f cc cl K T e) {x : Int} (h1 : 0 ≤ x) (h2 : x < T) : (cl x = -1 ∨ cl x = 0) ∧ (cc x = 0 ∨ cc x = 1) := by
  by_cases q : x < e ∧ L x
  · have := (h x h1 h2).1 q.1 q.2
    exact ⟨Or.inr this.1, Or.inr this.2.1⟩
  · have := (h x h1 h2).2 q
    exact ⟨Or.inl this.1, Or.inl this.2⟩
abbrev CL : List Nat := [22, 23, 24, 25, 26, 27, 28, 29, 30, 31, 32, 33, 34, 35]
abbrev EID (β τ : ga_S) (e : Nat) : Prop := EI (bL β) (β.1 66) (τ.1 24) (τ.1 25) (τ.1 23) 4 60 e
abbrev EIN (β τ : ga_S) (e : Nat) : Prop := EI (bU β) (β.1 64) (τ.1 31) (τ.1 32) (τ.1 30) 120 80 e
theorem T_X1_sideOf1_1 (σ : ga_S) : ga_Mt 0 0 0 mX1_sideOf [Vr 1, Vi 1] (HP σ) (gis (some (Vr 9)) σ) ga_nox := T_X1_sideOf1 1 (by decide) σ
theorem W_enterAll_2 {P : ga_Po} (σ β : ga_S) (N D : Nat) (ha : agS_2 σ β N D) (hu : agU 0 (σ.1 4) β N) (y3 y4 : Option ga_V) (τ0 : ga_S) (hx0 : exc CL σ τ0) (hD : EID β τ0 (30 * 0)) (hN : EIN β τ0 (40 * 0))
    (K : ∀ τ y3 y4, exc CL σ τ → EID β τ (30 * (0 + 1)) → EIN β τ (40 * (0 + 1)) → ga_W 3 0 0 0 0 mX0_enterAll P ga_nox 16 [some (Vr 21), some (Vr 1), some (Vi 1), y3, y4] [] (HP τ)) : ga_W 3 0 0 0 0 mX0_enterAll P ga_nox 16 [some (Vr 21), some (Vr 1), some (Vi 0), y3, y4] [] (HP τ0) := by
  have ha2 := ha
  obtain ⟨⟨hcN, hN2, hcD, hD2, hkd, hsz, hpin⟩, hbN, hbD, hport, hdev, hpb⟩ := ha2
  refine ga_iload_n dX0_enterAll_16 rfl ?_
  refine ga_iconst dX0_enterAll_17 ⟨by decide, by decide⟩ ?_
  refine ga_icmp_ge (tgt := 131) dX0_enterAll_18 rfl (fun c_18 => ?_) (fun c_18 => ?_)
  · omega
  · refine ga_aload_n dX0_enterAll_21 rfl ?_
    refine ga_iload_n dX0_enterAll_22 rfl ?_
    refine hc_V (T_X1_sideOf0 τ0) fX1_sideOf rfl kX1_sideOf lkX0_73 dX0_enterAll_23 rfl rfl rfl rfl rfl rfl rfl rfl ?_
    refine ga_astore_n (lv2 := [_, _, _, _, _]) dX0_enterAll_26 (by decide) rfl rfl ?_
    refine ga_iconst dX0_enterAll_27 ⟨by decide, by decide⟩ ?_
    refine ga_istore (lv2 := [_, _, _, _, _]) dX0_enterAll_28 (by decide) rfl rfl ?_
    refine (ga_loop D (fun d => ∀ τ, exc CL σ τ → EID β τ (30 * 0 + d) → EIN β τ (40 * 0) → ga_W 3 0 0 0 0 mX0_enterAll P ga_nox 30 [some (Vr 21), some (Vr 1), some (Vi 0), some (Vr 2), some (Vi (d : Int))] [] (HP τ)) ?_ ?_ 0 (Nat.zero_le _) τ0 hx0 hD hN : _)
    · intro τ hx h1 h2
      have h3 := EI_skip h1 (30 - D) (fun z a b => by
        have := agF_dead ha (d := (z : Int) - 30 * 0) (by omega) (by omega)
        rw [show 30 * 0 + ((z : Int) - 30 * 0) = z by omega] at this
        exact this)
      rw [show 30 * 0 + D + (30 - D) = 30 * (0 + 1) by omega] at h3
      have hc3 : τ.1 2 3 = D := by rw [hx.1 2 (by decide)]; exact hcD
      refine ga_iload dX0_enterAll_30 rfl ?_
      refine ga_aload_n dX0_enterAll_32 rfl ?_
      refine hg_getI 3 grX0_58 dX0_enterAll_33 rfl rfl rfl ?_
      refine ga_icmp_ge (tgt := 76) dX0_enterAll_36 rfl (fun c_36 => ?_) (fun c_36 => ?_)
      · refine ga_iconst dX0_enterAll_76 ⟨by decide, by decide⟩ ?_
        refine ga_istore (lv2 := [_, _, _, _, _]) dX0_enterAll_77 (by decide) rfl rfl ?_
        refine (ga_loop N (fun n => ∀ τ, exc CL σ τ → EID β τ (30 * (0 + 1)) → EIN β τ (40 * 0 + n) → ga_W 3 0 0 0 0 mX0_enterAll P ga_nox 79 [some (Vr 21), some (Vr 1), some (Vi 0), some (Vr 2), some (Vi (n : Int))] [] (HP τ)) ?_ ?_ 0 (Nat.zero_le _) τ hx h3 h2 : _)
        · intro τ hx h1 h2
          have h3 := EI_skip h2 (40 - N) (fun z a b => by
            have := agF_un ha (n := (z : Int) - 40 * 0) (by omega) (by omega)
            rw [show 40 * 0 + ((z : Int) - 40 * 0) = z by omega] at this
            exact this)
          rw [show 40 * 0 + N + (40 - N) = 40 * (0 + 1) by omega] at h3
          have hc0 : τ.1 2 0 = N := by rw [hx.1 2 (by decide)]; exact hcN
          refine ga_iload dX0_enterAll_79 rfl ?_
          refine ga_aload_n dX0_enterAll_81 rfl ?_
          refine hg_getI 0 grX0_83 dX0_enterAll_82 rfl rfl rfl ?_
          refine ga_icmp_ge (tgt := 125) dX0_enterAll_85 rfl (fun c_85 => ?_) (fun c_85 => ?_)
          · refine ga_iinc (z := 1) (lv2 := [_, _, _, _, _]) dX0_enterAll_125 (by decide) rfl rfl (by omega) (⟨by omega, by omega⟩) rfl ?_
            refine ga_goto (tgt := 16) dX0_enterAll_128 rfl ?_
            exact K τ _ _ hx h1 h3
          · omega
        · intro n hn ih τ hx h1 h2
          have hc0 : τ.1 2 0 = N := by rw [hx.1 2 (by decide)]; exact hcN
          have hu2 := hu n (by omega) (by omega)
          refine ga_iload dX0_enterAll_79 rfl ?_
          refine ga_aload_n dX0_enterAll_81 rfl ?_
          refine hg_getI 0 grX0_83 dX0_enterAll_82 rfl rfl rfl ?_
          refine ga_icmp_ge (tgt := 125) dX0_enterAll_85 rfl (fun c_85 => ?_) (fun c_85 => ?_)
          · omega
          · refine ga_aload_n dX0_enterAll_88 rfl ?_
            refine hg_getR grX0_86 dX0_enterAll_89 rfl rfl ?_
            refine ga_iload dX0_enterAll_92 rfl ?_
            refine hg_zald dX0_enterAll_94 rfl (by omega) (by omega) ?_
            refine ga_if_eq (tgt := 119) dX0_enterAll_95 rfl (fun c_95 => ?_) (fun c_95 => ?_)
            · rw [hx.1 4 (by decide)] at c_95
              refine ga_iinc (z := ((n + 1 : Nat) : Int)) (lv2 := [_, _, _, _, _]) dX0_enterAll_119 (by decide) rfl rfl (by omega) (⟨by omega, by omega⟩) rfl ?_
              refine ga_goto (tgt := 79) dX0_enterAll_122 rfl ?_
              have q9 : ¬ bU β ((40 * 0 + n : Nat) : Int) := by
                rw [show ((40 * 0 + n : Nat) : Int) = 40 * 0 + (n : Int) by omega]
                exact fun z => hu2.mpr z c_95
              exact ih τ hx h1 (EI_no h2 q9)
            · rw [hx.1 4 (by decide)] at c_95
              have hin := EI_in (x := 40 * 0 + (n : Int)) (c := τ.1 3 (n : Int)) h2 (by omega) (by omega) (by decide) (hu2.mp c_95) (by rw [hx.1 3 (by decide)]; exact hport n (by omega) (by omega))
              refine ga_aload_n dX0_enterAll_98 rfl ?_
              refine hg_getR grX0_20 dX0_enterAll_99 rfl rfl ?_
              refine ga_iload_n dX0_enterAll_102 rfl ?_
              refine ga_bipush dX0_enterAll_103 ⟨by decide, by decide⟩ (by decide) ?_
              refine ga_imul dX0_enterAll_105 rfl (⟨by omega, by omega⟩) ?_
              refine ga_iload dX0_enterAll_106 rfl ?_
              refine ga_iadd (z := 40 * 0 + (n : Int)) dX0_enterAll_108 (by omega) (⟨by omega, by omega⟩) ?_
              refine ga_aload_n dX0_enterAll_109 rfl ?_
              refine hg_getR grX0_89 dX0_enterAll_110 rfl rfl ?_
              refine ga_iload dX0_enterAll_113 rfl ?_
              refine hg_iald dX0_enterAll_115 rfl (by omega) (by omega) ?_
              refine hc_Vv (T_X7_enter_29 (40 * 0 + (n : Int)) _ τ 0 (by omega) (by omega) hin.1 (by decide)) fX7_enter rfl kX7_enter lkX0_80 dX0_enterAll_116 rfl rfl rfl rfl rfl rfl rfl rfl ?_
              refine ga_iinc (z := ((n + 1 : Nat) : Int)) (lv2 := [_, _, _, _, _]) dX0_enterAll_119 (by decide) rfl rfl (by omega) (⟨by omega, by omega⟩) rfl ?_
              refine ga_goto (tgt := 79) dX0_enterAll_122 rfl ?_
              exact ih _ (exc_st (exc_st (exc_st hx (by decide)) (by decide)) (by decide)) h1 hin.2
      · omega
    · intro d hd ih τ hx h1 h2
      have hc3 : τ.1 2 3 = D := by rw [hx.1 2 (by decide)]; exact hcD
      have hl := agF_live ha (d := d) (by omega) (by omega)
      refine ga_iload dX0_enterAll_30 rfl ?_
      refine ga_aload_n dX0_enterAll_32 rfl ?_
      refine hg_getI 3 grX0_58 dX0_enterAll_33 rfl rfl rfl ?_
      refine ga_icmp_ge (tgt := 76) dX0_enterAll_36 rfl (fun c_36 => ?_) (fun c_36 => ?_)
      · omega
      · refine ga_aload_n dX0_enterAll_39 rfl ?_
        refine hg_getR grX0_63 dX0_enterAll_40 rfl rfl ?_
        refine ga_iload dX0_enterAll_43 rfl ?_
        refine hg_zald dX0_enterAll_45 rfl (by omega) (by omega) ?_
        refine ga_if_ne (tgt := 70) dX0_enterAll_46 rfl (fun c_46 => ?_) (fun c_46 => ?_)
        · rw [hx.1 7 (by decide)] at c_46
          refine ga_iinc (z := ((d + 1 : Nat) : Int)) (lv2 := [_, _, _, _, _]) dX0_enterAll_70 (by decide) rfl rfl (by omega) (⟨by omega, by omega⟩) rfl ?_
          refine ga_goto (tgt := 30) dX0_enterAll_73 rfl ?_
          have q9 : ¬ bL β ((30 * 0 + d : Nat) : Int) := by
            rw [show ((30 * 0 + d : Nat) : Int) = 30 * 0 + (d : Int) by omega]
            exact fun z => c_46 (hl.mp z)
          exact ih τ hx (EI_no h1 q9) h2
        · rw [hx.1 7 (by decide)] at c_46
          have hin := EI_in (x := 30 * 0 + (d : Int)) (c := τ.1 5 (d : Int)) h1 (by omega) (by omega) (by decide) (hl.mpr c_46) (by rw [hx.1 5 (by decide)]; exact (hdev d (by omega) (by omega)).1)
          refine ga_aload_n dX0_enterAll_49 rfl ?_
          refine hg_getR grX0_14 dX0_enterAll_50 rfl rfl ?_
          refine ga_iload_n dX0_enterAll_53 rfl ?_
          refine ga_bipush dX0_enterAll_54 ⟨by decide, by decide⟩ (by decide) ?_
          refine ga_imul dX0_enterAll_56 rfl (⟨by omega, by omega⟩) ?_
          refine ga_iload dX0_enterAll_57 rfl ?_
          refine ga_iadd (z := 30 * 0 + (d : Int)) dX0_enterAll_59 (by omega) (⟨by omega, by omega⟩) ?_
          refine ga_aload_n dX0_enterAll_60 rfl ?_
          refine hg_getR grX0_77 dX0_enterAll_61 rfl rfl ?_
          refine ga_iload dX0_enterAll_64 rfl ?_
          refine hg_iald dX0_enterAll_66 rfl (by omega) (by omega) ?_
          refine hc_Vv (T_X7_enter_22 (30 * 0 + (d : Int)) _ τ 0 (by omega) (by omega) hin.1 (by decide)) fX7_enter rfl kX7_enter lkX0_80 dX0_enterAll_67 rfl rfl rfl rfl rfl rfl rfl rfl ?_
          refine ga_iinc (z := ((d + 1 : Nat) : Int)) (lv2 := [_, _, _, _, _]) dX0_enterAll_70 (by decide) rfl rfl (by omega) (⟨by omega, by omega⟩) rfl ?_
          refine ga_goto (tgt := 30) dX0_enterAll_73 rfl ?_
          exact ih _ (exc_st (exc_st (exc_st hx (by decide)) (by decide)) (by decide)) hin.2 h2
theorem W_enterAll_9 {P : ga_Po} (σ β : ga_S) (N D : Nat) (ha : agS_9 σ β N D) (hu : agU 1 (σ.1 11) β N) (y3 y4 : Option ga_V) (τ0 : ga_S) (hx0 : exc CL σ τ0) (hD : EID β τ0 (30 * 1)) (hN : EIN β τ0 (40 * 1))
    (K : ∀ τ y3 y4, exc CL σ τ → EID β τ (30 * (1 + 1)) → EIN β τ (40 * (1 + 1)) → ga_W 3 0 0 0 0 mX0_enterAll P ga_nox 16 [some (Vr 21), some (Vr 1), some (Vi 2), y3, y4] [] (HP τ)) : ga_W 3 0 0 0 0 mX0_enterAll P ga_nox 16 [some (Vr 21), some (Vr 1), some (Vi 1), y3, y4] [] (HP τ0) := by
  have ha2 := ha
  obtain ⟨⟨hcN, hN2, hcD, hD2, hkd, hsz, hpin⟩, hbN, hbD, hport, hdev, hpb⟩ := ha2
  refine ga_iload_n dX0_enterAll_16 rfl ?_
  refine ga_iconst dX0_enterAll_17 ⟨by decide, by decide⟩ ?_
  refine ga_icmp_ge (tgt := 131) dX0_enterAll_18 rfl (fun c_18 => ?_) (fun c_18 => ?_)
  · omega
  · refine ga_aload_n dX0_enterAll_21 rfl ?_
    refine ga_iload_n dX0_enterAll_22 rfl ?_
    refine hc_V (T_X1_sideOf1_1 τ0) fX1_sideOf rfl kX1_sideOf lkX0_73 dX0_enterAll_23 rfl rfl rfl rfl rfl rfl rfl rfl ?_
    refine ga_astore_n (lv2 := [_, _, _, _, _]) dX0_enterAll_26 (by decide) rfl rfl ?_
    refine ga_iconst dX0_enterAll_27 ⟨by decide, by decide⟩ ?_
    refine ga_istore (lv2 := [_, _, _, _, _]) dX0_enterAll_28 (by decide) rfl rfl ?_
    refine (ga_loop D (fun d => ∀ τ, exc CL σ τ → EID β τ (30 * 1 + d) → EIN β τ (40 * 1) → ga_W 3 0 0 0 0 mX0_enterAll P ga_nox 30 [some (Vr 21), some (Vr 1), some (Vi 1), some (Vr 9), some (Vi (d : Int))] [] (HP τ)) ?_ ?_ 0 (Nat.zero_le _) τ0 hx0 hD hN : _)
    · intro τ hx h1 h2
      have h3 := EI_skip h1 (30 - D) (fun z a b => by
        have := agF_dead ha (d := (z : Int) - 30 * 1) (by omega) (by omega)
        rw [show 30 * 1 + ((z : Int) - 30 * 1) = z by omega] at this
        exact this)
      rw [show 30 * 1 + D + (30 - D) = 30 * (1 + 1) by omega] at h3
      have hc3 : τ.1 9 3 = D := by rw [hx.1 9 (by decide)]; exact hcD
      refine ga_iload dX0_enterAll_30 rfl ?_
      refine ga_aload_n dX0_enterAll_32 rfl ?_
      refine hg_getI 3 grX0_58 dX0_enterAll_33 rfl rfl rfl ?_
      refine ga_icmp_ge (tgt := 76) dX0_enterAll_36 rfl (fun c_36 => ?_) (fun c_36 => ?_)
      · refine ga_iconst dX0_enterAll_76 ⟨by decide, by decide⟩ ?_
        refine ga_istore (lv2 := [_, _, _, _, _]) dX0_enterAll_77 (by decide) rfl rfl ?_
        refine (ga_loop N (fun n => ∀ τ, exc CL σ τ → EID β τ (30 * (1 + 1)) → EIN β τ (40 * 1 + n) → ga_W 3 0 0 0 0 mX0_enterAll P ga_nox 79 [some (Vr 21), some (Vr 1), some (Vi 1), some (Vr 9), some (Vi (n : Int))] [] (HP τ)) ?_ ?_ 0 (Nat.zero_le _) τ hx h3 h2 : _)
        · intro τ hx h1 h2
          have h3 := EI_skip h2 (40 - N) (fun z a b => by
            have := agF_un ha (n := (z : Int) - 40 * 1) (by omega) (by omega)
            rw [show 40 * 1 + ((z : Int) - 40 * 1) = z by omega] at this
            exact this)
          rw [show 40 * 1 + N + (40 - N) = 40 * (1 + 1) by omega] at h3
          have hc0 : τ.1 9 0 = N := by rw [hx.1 9 (by decide)]; exact hcN
          refine ga_iload dX0_enterAll_79 rfl ?_
          refine ga_aload_n dX0_enterAll_81 rfl ?_
          refine hg_getI 0 grX0_83 dX0_enterAll_82 rfl rfl rfl ?_
          refine ga_icmp_ge (tgt := 125) dX0_enterAll_85 rfl (fun c_85 => ?_) (fun c_85 => ?_)
          · refine ga_iinc (z := 2) (lv2 := [_, _, _, _, _]) dX0_enterAll_125 (by decide) rfl rfl (by omega) (⟨by omega, by omega⟩) rfl ?_
            refine ga_goto (tgt := 16) dX0_enterAll_128 rfl ?_
            exact K τ _ _ hx h1 h3
          · omega
        · intro n hn ih τ hx h1 h2
          have hc0 : τ.1 9 0 = N := by rw [hx.1 9 (by decide)]; exact hcN
          have hu2 := hu n (by omega) (by omega)
          refine ga_iload dX0_enterAll_79 rfl ?_
          refine ga_aload_n dX0_enterAll_81 rfl ?_
          refine hg_getI 0 grX0_83 dX0_enterAll_82 rfl rfl rfl ?_
          refine ga_icmp_ge (tgt := 125) dX0_enterAll_85 rfl (fun c_85 => ?_) (fun c_85 => ?_)
          · omega
          · refine ga_aload_n dX0_enterAll_88 rfl ?_
            refine hg_getR grX0_86 dX0_enterAll_89 rfl rfl ?_
            refine ga_iload dX0_enterAll_92 rfl ?_
            refine hg_zald dX0_enterAll_94 rfl (by omega) (by omega) ?_
            refine ga_if_eq (tgt := 119) dX0_enterAll_95 rfl (fun c_95 => ?_) (fun c_95 => ?_)
            · rw [hx.1 11 (by decide)] at c_95
              refine ga_iinc (z := ((n + 1 : Nat) : Int)) (lv2 := [_, _, _, _, _]) dX0_enterAll_119 (by decide) rfl rfl (by omega) (⟨by omega, by omega⟩) rfl ?_
              refine ga_goto (tgt := 79) dX0_enterAll_122 rfl ?_
              have q9 : ¬ bU β ((40 * 1 + n : Nat) : Int) := by
                rw [show ((40 * 1 + n : Nat) : Int) = 40 * 1 + (n : Int) by omega]
                exact fun z => hu2.mpr z c_95
              exact ih τ hx h1 (EI_no h2 q9)
            · rw [hx.1 11 (by decide)] at c_95
              have hin := EI_in (x := 40 * 1 + (n : Int)) (c := τ.1 10 (n : Int)) h2 (by omega) (by omega) (by decide) (hu2.mp c_95) (by rw [hx.1 10 (by decide)]; exact hport n (by omega) (by omega))
              refine ga_aload_n dX0_enterAll_98 rfl ?_
              refine hg_getR grX0_20 dX0_enterAll_99 rfl rfl ?_
              refine ga_iload_n dX0_enterAll_102 rfl ?_
              refine ga_bipush dX0_enterAll_103 ⟨by decide, by decide⟩ (by decide) ?_
              refine ga_imul dX0_enterAll_105 rfl (⟨by omega, by omega⟩) ?_
              refine ga_iload dX0_enterAll_106 rfl ?_
              refine ga_iadd (z := 40 * 1 + (n : Int)) dX0_enterAll_108 (by omega) (⟨by omega, by omega⟩) ?_
              refine ga_aload_n dX0_enterAll_109 rfl ?_
              refine hg_getR grX0_89 dX0_enterAll_110 rfl rfl ?_
              refine ga_iload dX0_enterAll_113 rfl ?_
              refine hg_iald dX0_enterAll_115 rfl (by omega) (by omega) ?_
              refine hc_Vv (T_X7_enter_29 (40 * 1 + (n : Int)) _ τ 0 (by omega) (by omega) hin.1 (by decide)) fX7_enter rfl kX7_enter lkX0_80 dX0_enterAll_116 rfl rfl rfl rfl rfl rfl rfl rfl ?_
              refine ga_iinc (z := ((n + 1 : Nat) : Int)) (lv2 := [_, _, _, _, _]) dX0_enterAll_119 (by decide) rfl rfl (by omega) (⟨by omega, by omega⟩) rfl ?_
              refine ga_goto (tgt := 79) dX0_enterAll_122 rfl ?_
              exact ih _ (exc_st (exc_st (exc_st hx (by decide)) (by decide)) (by decide)) h1 hin.2
      · omega
    · intro d hd ih τ hx h1 h2
      have hc3 : τ.1 9 3 = D := by rw [hx.1 9 (by decide)]; exact hcD
      have hl := agF_live ha (d := d) (by omega) (by omega)
      refine ga_iload dX0_enterAll_30 rfl ?_
      refine ga_aload_n dX0_enterAll_32 rfl ?_
      refine hg_getI 3 grX0_58 dX0_enterAll_33 rfl rfl rfl ?_
      refine ga_icmp_ge (tgt := 76) dX0_enterAll_36 rfl (fun c_36 => ?_) (fun c_36 => ?_)
      · omega
      · refine ga_aload_n dX0_enterAll_39 rfl ?_
        refine hg_getR grX0_63 dX0_enterAll_40 rfl rfl ?_
        refine ga_iload dX0_enterAll_43 rfl ?_
        refine hg_zald dX0_enterAll_45 rfl (by omega) (by omega) ?_
        refine ga_if_ne (tgt := 70) dX0_enterAll_46 rfl (fun c_46 => ?_) (fun c_46 => ?_)
        · rw [hx.1 14 (by decide)] at c_46
          refine ga_iinc (z := ((d + 1 : Nat) : Int)) (lv2 := [_, _, _, _, _]) dX0_enterAll_70 (by decide) rfl rfl (by omega) (⟨by omega, by omega⟩) rfl ?_
          refine ga_goto (tgt := 30) dX0_enterAll_73 rfl ?_
          have q9 : ¬ bL β ((30 * 1 + d : Nat) : Int) := by
            rw [show ((30 * 1 + d : Nat) : Int) = 30 * 1 + (d : Int) by omega]
            exact fun z => c_46 (hl.mp z)
          exact ih τ hx (EI_no h1 q9) h2
        · rw [hx.1 14 (by decide)] at c_46
          have hin := EI_in (x := 30 * 1 + (d : Int)) (c := τ.1 12 (d : Int)) h1 (by omega) (by omega) (by decide) (hl.mpr c_46) (by rw [hx.1 12 (by decide)]; exact (hdev d (by omega) (by omega)).1)
          refine ga_aload_n dX0_enterAll_49 rfl ?_
          refine hg_getR grX0_14 dX0_enterAll_50 rfl rfl ?_
          refine ga_iload_n dX0_enterAll_53 rfl ?_
          refine ga_bipush dX0_enterAll_54 ⟨by decide, by decide⟩ (by decide) ?_
          refine ga_imul dX0_enterAll_56 rfl (⟨by omega, by omega⟩) ?_
          refine ga_iload dX0_enterAll_57 rfl ?_
          refine ga_iadd (z := 30 * 1 + (d : Int)) dX0_enterAll_59 (by omega) (⟨by omega, by omega⟩) ?_
          refine ga_aload_n dX0_enterAll_60 rfl ?_
          refine hg_getR grX0_77 dX0_enterAll_61 rfl rfl ?_
          refine ga_iload dX0_enterAll_64 rfl ?_
          refine hg_iald dX0_enterAll_66 rfl (by omega) (by omega) ?_
          refine hc_Vv (T_X7_enter_22 (30 * 1 + (d : Int)) _ τ 0 (by omega) (by omega) hin.1 (by decide)) fX7_enter rfl kX7_enter lkX0_80 dX0_enterAll_67 rfl rfl rfl rfl rfl rfl rfl rfl ?_
          refine ga_iinc (z := ((d + 1 : Nat) : Int)) (lv2 := [_, _, _, _, _]) dX0_enterAll_70 (by decide) rfl rfl (by omega) (⟨by omega, by omega⟩) rfl ?_
          refine ga_goto (tgt := 30) dX0_enterAll_73 rfl ?_
          exact ih _ (exc_st (exc_st (exc_st hx (by decide)) (by decide)) (by decide)) hin.2 h2
theorem T_X0_enterAll (σ β : ga_S) (N D M E : Nat) (hd : dsg σ β N D M E) : ga_Mt 3 0 0 mX0_enterAll [Vr 21, Vr 1] (HP σ) (fun v h => ∃ (τ : ga_S) (P Q : Nat), exc CL σ τ ∧ numb 60 (bL β) (τ.1 23) P (β.1 66) ∧ numb 80 (bU β) (τ.1 30) Q (β.1 64) ∧ τ.1 22 2 = P ∧ τ.1 29 2 = Q ∧ v = none ∧ h = HP τ) ga_nox := by
  obtain ⟨h1, h2, _, u1, u2⟩ := hd
  refine ga_meth [some (Vr 21), some (Vr 1), none, none, none] rfl rfl (by decide +kernel) (Nat.le_of_ble_eq_true rfl) rfl ?_
  refine ga_aload_n dX0_enterAll_0 rfl ?_
  refine hg_getR grX0_14 dX0_enterAll_1 rfl rfl ?_
  refine hc_Vv (T_X7_empty_22 _) fX7_empty rfl kX7_empty lkX0_70 dX0_enterAll_4 rfl rfl rfl rfl rfl rfl rfl rfl ?_
  refine ga_aload_n dX0_enterAll_7 rfl ?_
  refine hg_getR grX0_20 dX0_enterAll_8 rfl rfl ?_
  refine hc_Vv (T_X7_empty_29 _) fX7_empty rfl kX7_empty lkX0_70 dX0_enterAll_11 rfl rfl rfl rfl rfl rfl rfl rfl ?_
  refine ga_iconst dX0_enterAll_14 ⟨by decide, by decide⟩ ?_
  refine ga_istore_n (lv2 := [_, _, _, _, _]) dX0_enterAll_15 (by decide) rfl rfl ?_
  refine W_enterAll_2 σ β N D h1 u1 _ _ _ (exc_st (exc_st (exc_st (exc_st (exc_st (exc_st exc_r (by decide)) (by decide)) (by decide)) (by decide)) (by decide)) (by decide)) ?_ ?_ ?_
  · intro x a b
    exact ⟨fun q => by omega, fun _ => ⟨fillF_in ⟨a, b⟩, fillF_in ⟨a, b⟩⟩⟩
  · intro x a b
    exact ⟨fun q => by omega, fun _ => ⟨fillF_in ⟨a, b⟩, fillF_in ⟨a, b⟩⟩⟩
  · intro τ y3 y4 hx e1 e2
    refine W_enterAll_9 σ β M E h2 u2 _ _ τ hx e1 e2 ?_
    intro τ y3 y4 hx e1 e2
    refine ga_iload_n dX0_enterAll_16 rfl ?_
    refine ga_iconst dX0_enterAll_17 ⟨by decide, by decide⟩ ?_
    refine ga_icmp_ge (tgt := 131) dX0_enterAll_18 rfl (fun c_18 => ?_) (fun c_18 => ?_)
    · refine ga_aload_n dX0_enterAll_131 rfl ?_
      refine hg_getR grX0_14 dX0_enterAll_132 rfl rfl ?_
      refine hc_VP (T_X7_split_22 τ (fun u a b => by have := (EI_rng e1 a b).1; omega) (fun u a b => by have := (EI_rng e1 a b).2; omega)) fX7_split rfl kX7_split lkX0_92 dX0_enterAll_135 rfl rfl rfl rfl rfl rfl rfl rfl ?_
      rintro v h ⟨τ1, P, x1, x2, x3, x4, x5⟩
      rw [x3, x4]
      have n1 := EI_numb e1 x5
      have e3 : EIN β τ1 80 := by
        unfold EIN
        rw [x1.1 30 (by decide), x1.1 31 (by decide), x1.1 32 (by decide)]
        exact e2
      refine ga_pop dX0_enterAll_138 rfl ?_
      refine ga_aload_n dX0_enterAll_139 rfl ?_
      refine hg_getR grX0_20 dX0_enterAll_140 rfl rfl ?_
      refine hc_VP (T_X7_split_29 τ1 (fun u a b => by have := (EI_rng e3 a b).1; omega) (fun u a b => by have := (EI_rng e3 a b).2; omega)) fX7_split rfl kX7_split lkX0_92 dX0_enterAll_143 rfl rfl rfl rfl rfl rfl rfl rfl ?_
      rintro v h ⟨τ2, Q, w1, w2, w3, w4, w5⟩
      rw [w3, w4]
      have n2 := EI_numb e3 w5
      refine ga_pop dX0_enterAll_146 rfl ?_
      refine ga_ret (v := none) ?_ rfl (by decide) (by decide) ⟨dX0_enterAll_147, rfl⟩
      refine ⟨τ2, P, Q, exc_tr (exc_tr hx x1 (L := CL) (by decide) (by decide)) w1 (by decide) (by decide), ?_, n2, ?_, w2, rfl, rfl⟩
      · rw [w1.1 23 (by decide)]; exact n1
      · rw [w1.1 22 (by decide)]; exact x2
    · omega
