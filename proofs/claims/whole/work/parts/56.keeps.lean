-- Search: keep
theorem lstF_cg {P Q : Int → Prop} {M T : Nat} (hMT : M ≤ T) (h1 : ∀ m : Int, 0 ≤ m → m < M → (P m ↔ Q m)) (h2 : ∀ m : Int, M ≤ m → m < T → ¬ Q m) : lstF P M = lstF Q T := by
  rcases lstF_is P M with ⟨q1, q2⟩ | ⟨q1, q2, q3, q4⟩
  · rcases lstF_is Q T with ⟨g1, g2⟩ | ⟨g1, g2, g3, g4⟩
    · rw [q1, g1]
    · rcases Int.lt_or_le (lstF Q T) M with z | z
      · exact absurd ((h1 _ g1 z).mpr g3) (q2 _ g1 z)
      · exact absurd g3 (h2 _ z g2)
  · exact (lstF_one q1 (by omega) ((h1 _ q1 q2).mp q3) (fun i a b c => q4 i a b ((h1 i a (by omega)).mpr c))).symm
def KN2 (g s : Int → Int) (n : Nat) : Prop := ∀ m : Int, 0 ≤ m → m < 40 → (s m = -1 ∧ ∀ i : Int, 0 ≤ i → i < 40 → g i ≠ m) ∨ (0 ≤ s m ∧ s m < n ∧ g (s m) = m)
theorem gN_no {β : ga_S} {ch : Int → Int} {L : Int} {n : Nat} (h : ¬ bU β n) : gN β ch L (n + 1) = gN β ch L n := by
  rw [gN_s, tif0 h]
  funext i
  by_cases q : i = n
  · rw [q, ga_up_at, gN_hi β ch L n n (by omega)]
  · rw [ga_up_ne _ _ q]
theorem gN_skip {β : ga_S} {ch : Int → Int} {L : Int} {n : Nat} : ∀ r : Nat, (∀ z : Nat, n ≤ z → z < n + r → ¬ bU β z) → gN β ch L (n + r) = gN β ch L n
  | 0, _ => rfl
  | r + 1, h => by
    rw [← Nat.add_assoc, gN_no (h (n + r) (by omega) (by omega))]
    exact gN_skip r (fun z a b => h z a (by omega))
theorem T_X8_keep (σ β : ga_S) (N D M E L : Nat) (c2 : Int → Int) (hd : dsg σ β N D M E) (hL : lnC β 30 = L) (h38 : σ.1 38 0 = L) (h39 : ∀ i : Int, 0 ≤ i → i < L → σ.1 39 i = ln β i) (h40 : ∀ i : Int, 0 ≤ i → i < L → σ.1 40 i = c2 i ∧ 0 ≤ c2 i ∧ c2 i < 30) (hj : ∀ i j : Int, 0 ≤ i → i < L → 0 ≤ j → j < L → c2 i = c2 j → i = j) (hs : SR β c2 L (σ.1 43) (σ.1 47)) (h58 : ∀ i : Int, 0 ≤ i → i < 40 → σ.1 58 i = -1) (h59 : ∀ i : Int, 0 ≤ i → i < 40 → σ.1 59 i = -1) : ga_Mt 2 0 0 mX8_keep [Vr 38, Vr 1, Vr 55] (HP σ) (fun v h => ∃ τ, exc [55, 56, 57, 58, 59] σ τ ∧ τ.1 55 0 = 1 ∧ CSr (ln β) c2 (σ.1 56) (τ.1 56) L ∧ CSr c2 (ln β) (σ.1 57) (τ.1 57) L ∧ (∀ i : Int, 0 ≤ i → i < 40 → τ.1 58 i = gN β c2 L 40 i) ∧ KN2 (gN β c2 L 40) (τ.1 59) 40 ∧ v = none ∧ h = HP τ) ga_nox := by
  have h1 := hd.1
  have h2 := hd.2.1
  have u1 := hd.2.2.2.1
  have u2 := hd.2.2.2.2
  have hN := h1.1.1
  have hN2 := h1.1.2.1
  have hM := h2.1.1
  have hM2 := h2.1.2.1
  have hL2 := lnC_b β 30
  have lnI := fun i : Int => fun a : 0 ≤ i => fun b : i < L => ln_in (β := β) (e := 30) (Nat.le_refl _) i a (by omega)
  have lnJ : ∀ i j : Int, 0 ≤ i → i < L → 0 ≤ j → j < L → ln β i = ln β j → i = j := fun i j a b c d q => by
    have := (lnI i a b).2.2.2
    rw [← (lnI j c d).2.2.2, ← q, this]
  refine ga_meth [some (Vr 38), some (Vr 1), some (Vr 55), none] rfl rfl (by decide +kernel) (Nat.le_of_ble_eq_true rfl) rfl ?_
  refine ga_aload_n dX8_keep_0 rfl ?_
  refine ga_iconst dX8_keep_1 ⟨by decide, by decide⟩ ?_
  refine hg_putZ 0 gfX8_67 dX8_keep_2 rfl rfl (by omega) rfl ?_
  refine ga_iconst dX8_keep_5 ⟨by decide, by decide⟩ ?_
  refine ga_istore_n (lv2 := [_, _, _, _]) dX8_keep_6 (by decide) rfl rfl ?_
  refine (ga_loop L (fun e => ∀ τ, exc [55, 56, 57] σ τ → τ.1 55 0 = 1 → CSr (ln β) c2 (σ.1 56) (τ.1 56) e → CSr c2 (ln β) (σ.1 57) (τ.1 57) e → ga_W 2 0 0 0 0 mX8_keep (fun v h => ∃ τ, exc [55, 56, 57, 58, 59] σ τ ∧ τ.1 55 0 = 1 ∧ CSr (ln β) c2 (σ.1 56) (τ.1 56) L ∧ CSr c2 (ln β) (σ.1 57) (τ.1 57) L ∧ (∀ i : Int, 0 ≤ i → i < 40 → τ.1 58 i = gN β c2 L 40 i) ∧ KN2 (gN β c2 L 40) (τ.1 59) 40 ∧ v = none ∧ h = HP τ) ga_nox 7 [some (Vr 38), some (Vr 1), some (Vr 55), some (Vi (e : Int))] [] (HP τ)) ?_ ?_ 0 (Nat.zero_le _) (stI σ 55 (ga_up (σ.1 55) 0 1)) (exc_st exc_r (by decide)) rfl ⟨fun _ _ => rfl, fun i a b => by omega⟩ ⟨fun _ _ => rfl, fun i a b => by omega⟩ : _)
  · intro τ hx q1 q2 q3
    have e1 : τ.1 38 0 = L := by rw [hx.1 38 (by decide)]; exact h38
    refine ga_iload_n dX8_keep_7 rfl ?_
    refine ga_aload_n dX8_keep_8 rfl ?_
    refine hg_getI 0 grX8_9 dX8_keep_9 rfl rfl rfl ?_
    refine ga_icmp_ge (tgt := 37) dX8_keep_12 rfl (fun c_12 => ?_) (fun c_12 => ?_)
    · refine ga_iconst dX8_keep_37 ⟨by decide, by decide⟩ ?_
      refine ga_istore_n (lv2 := [_, _, _, _]) dX8_keep_38 (by decide) rfl rfl ?_
      refine (ga_loop N (fun n => ∀ υ, exc [58, 59] τ υ → (∀ i : Int, 0 ≤ i → i < 40 → υ.1 58 i = gN β c2 L n i) → KN2 (gN β c2 L n) (υ.1 59) n → ga_W 2 0 0 0 0 mX8_keep (fun v h => ∃ τ, exc [55, 56, 57, 58, 59] σ τ ∧ τ.1 55 0 = 1 ∧ CSr (ln β) c2 (σ.1 56) (τ.1 56) L ∧ CSr c2 (ln β) (σ.1 57) (τ.1 57) L ∧ (∀ i : Int, 0 ≤ i → i < 40 → τ.1 58 i = gN β c2 L 40 i) ∧ KN2 (gN β c2 L 40) (τ.1 59) 40 ∧ v = none ∧ h = HP τ) ga_nox 39 [some (Vr 38), some (Vr 1), some (Vr 55), some (Vi (n : Int))] [] (HP υ)) ?_ ?_ 0 (Nat.zero_le _) τ exc_r (fun i a b => by rw [hx.1 58 (by decide)]; exact h58 i a b) (fun m a b => Or.inl ⟨by rw [hx.1 59 (by decide)]; exact h59 m a b, fun i _ _ => by show (-1 : Int) ≠ m; omega⟩) : _)
      · intro υ hu w1 w2
        have e2 : υ.1 2 0 = N := by rw [hu.1 2 (by decide), hx.1 2 (by decide)]; exact hN
        have g40 : gN β c2 L 40 = gN β c2 L N := by
          have := gN_skip (β := β) (ch := c2) (L := L) (n := N) (40 - N) (fun z a b => by
            have := agF_un h1 (n := (z : Int)) (by omega) (by omega)
            rw [show 40 * 0 + (z : Int) = z by omega] at this
            exact this)
          rw [show N + (40 - N) = 40 by omega] at this
          exact this
        refine ga_iload_n dX8_keep_39 rfl ?_
        refine ga_aload_n dX8_keep_40 rfl ?_
        refine hg_getR grX8_77 dX8_keep_41 rfl rfl ?_
        refine hg_getI 0 grX8_83 dX8_keep_44 rfl rfl rfl ?_
        refine ga_icmp_ge (tgt := 78) dX8_keep_47 rfl (fun c_47 => ?_) (fun c_47 => ?_)
        · refine ga_ret (v := none) ?_ rfl (by decide) (by decide) ⟨dX8_keep_78, rfl⟩
          refine ⟨υ, exc_tr hx hu (by decide) (by decide), ?_, ?_, ?_, ?_, ?_, rfl, rfl⟩
          · rw [hu.1 55 (by decide)]; exact q1
          · rw [hu.1 56 (by decide)]; exact q2
          · rw [hu.1 57 (by decide)]; exact q3
          · rw [g40]; exact w1
          · rw [g40]
            intro m a b
            rcases w2 m a b with z | ⟨z1, z2, z3⟩
            · exact Or.inl z
            · exact Or.inr ⟨z1, by omega, z3⟩
        · omega
      · intro n hn k υ hu w1 w2
        have e2 : υ.1 2 0 = N := by rw [hu.1 2 (by decide), hx.1 2 (by decide)]; exact hN
        have e3 : υ.1 4 = σ.1 4 := by rw [hu.1 4 (by decide), hx.1 4 (by decide)]
        have e4 : υ.1 9 0 = M := by rw [hu.1 9 (by decide), hx.1 9 (by decide)]; exact hM
        have e5 : υ.1 11 = σ.1 11 := by rw [hu.1 11 (by decide), hx.1 11 (by decide)]
        have e6 : υ.1 43 = σ.1 43 := by rw [hu.1 43 (by decide), hx.1 43 (by decide)]
        have e7 : υ.1 47 = σ.1 47 := by rw [hu.1 47 (by decide), hx.1 47 (by decide)]
        have un := u1 n (by omega) (by omega)
        rw [show 40 * 0 + (n : Int) = n by omega] at un
        refine ga_iload_n dX8_keep_39 rfl ?_
        refine ga_aload_n dX8_keep_40 rfl ?_
        refine hg_getR grX8_77 dX8_keep_41 rfl rfl ?_
        refine hg_getI 0 grX8_83 dX8_keep_44 rfl rfl rfl ?_
        refine ga_icmp_ge (tgt := 78) dX8_keep_47 rfl (fun c_47 => ?_) (fun c_47 => ?_)
        · omega
        · refine ga_aload_n dX8_keep_50 rfl ?_
          refine hg_getR grX8_77 dX8_keep_51 rfl rfl ?_
          refine hg_getR grX8_88 dX8_keep_54 rfl rfl ?_
          refine ga_iload_n dX8_keep_57 rfl ?_
          refine hg_zald dX8_keep_58 rfl (by omega) (by omega) ?_
          refine ga_if_eq (tgt := 72) dX8_keep_59 rfl (fun c_59 => ?_) (fun c_59 => ?_)
          · rw [e3] at c_59
            have nu : ¬ bU β n := fun z => (un.mpr z) c_59
            refine ga_iinc (z := ((n + 1 : Nat) : Int)) (lv2 := [_, _, _, _]) dX8_keep_72 (by decide) rfl rfl (by omega) (⟨by omega, by omega⟩) rfl ?_
            refine ga_goto (tgt := 39) dX8_keep_75 rfl ?_
            refine k υ hu (by rw [gN_no nu]; exact w1) ?_
            rw [gN_no nu]
            intro m a b
            rcases w2 m a b with z | ⟨z1, z2, z3⟩
            · exact Or.inl z
            · exact Or.inr ⟨z1, by omega, z3⟩
          · rw [e3] at c_59
            have bu := un.mp c_59
            have LE : lstF (fun m => (υ.1 11 m ≠ 0 ∧ υ.1 59 m = -1) ∧ υ.1 47 m = υ.1 43 (n : Int)) M = lstF (fun m => bU β (40 + m) ∧ (∀ i : Int, 0 ≤ i → i < n → gN β c2 L n i ≠ m) ∧ SE β c2 L n (40 + m)) 40 := by
              refine lstF_cg hM2 (fun m a b => ?_) (fun m a b z => ?_)
              · have u := u2 m a b
                rw [show 40 * 1 + m = 40 + m by omega] at u
                rw [e5, e6, e7, u]
                constructor
                · rintro ⟨⟨x1, x2⟩, x3⟩
                  refine ⟨x1, fun i a2 b2 => ?_, ?_⟩
                  · rcases w2 m a (by omega) with ⟨_, z⟩ | ⟨z1, z2, z3⟩
                    · exact z i a2 (by omega)
                    · omega
                  · refine (hs.1 n (40 + m) (by omega) (by omega) (by omega) (by omega) bu x1).mp ?_
                    unfold sT
                    rw [if_pos (by omega), if_neg (by omega), show 40 + m - 40 = m by omega, x3]
                · rintro ⟨x1, x2, x3⟩
                  refine ⟨⟨x1, ?_⟩, ?_⟩
                  · rcases w2 m a (by omega) with ⟨z, _⟩ | ⟨z1, z2, z3⟩
                    · exact z
                    · exact absurd z3 (x2 _ z1 z2)
                  · have := (hs.1 n (40 + m) (by omega) (by omega) (by omega) (by omega) bu x1).mpr x3
                    unfold sT at this
                    rw [if_pos (by omega), if_neg (by omega), show 40 + m - 40 = m by omega] at this
                    exact this.symm
              · have := agF_un h2 (n := m) a b
                rw [show 40 * 1 + m = 40 + m by omega] at this
                exact this z.1
            have gs : gN β c2 L (n + 1) = ga_up (gN β c2 L n) (n : Int) (lstF (fun m => (υ.1 11 m ≠ 0 ∧ υ.1 59 m = -1) ∧ υ.1 47 m = υ.1 43 (n : Int)) M) := by rw [gN_s, tif1 bu, LE]
            have li := lstF_is (fun m => (υ.1 11 m ≠ 0 ∧ υ.1 59 m = -1) ∧ υ.1 47 m = υ.1 43 (n : Int)) M
            refine ga_aload_n dX8_keep_62 rfl ?_
            refine ga_aload_n dX8_keep_63 rfl ?_
            refine hg_getR grX8_91 dX8_keep_64 rfl rfl ?_
            refine ga_aload_n dX8_keep_67 rfl ?_
            refine ga_iload_n dX8_keep_68 rfl ?_
            refine hc_VP (T_X8_keepNet n υ M (by omega) (by omega) e4 hM2) fX8_keepNet rfl kX8_keepNet lkX8_94 dX8_keep_69 rfl rfl rfl rfl rfl rfl rfl rfl ?_
            rintro v h ⟨x1, (⟨x2, x3⟩ | ⟨x2, x3⟩)⟩
            · rw [x1, x3]
              have gs2 : gN β c2 L (n + 1) = gN β c2 L n := by
                rw [gs, x2]
                funext i
                by_cases q : i = n
                · rw [q, ga_up_at, gN_hi β c2 L n n (by omega)]
                · rw [ga_up_ne _ _ q]
              refine ga_iinc (z := ((n + 1 : Nat) : Int)) (lv2 := [_, _, _, _]) dX8_keep_72 (by decide) rfl rfl (by omega) (⟨by omega, by omega⟩) rfl ?_
              refine ga_goto (tgt := 39) dX8_keep_75 rfl ?_
              refine k υ hu (by rw [gs2]; exact w1) ?_
              rw [gs2]
              intro m a b
              rcases w2 m a b with z | ⟨z1, z2, z3⟩
              · exact Or.inl z
              · exact Or.inr ⟨z1, by omega, z3⟩
            · rw [x1, x3]
              revert gs li x2
              generalize lstF (fun m => (υ.1 11 m ≠ 0 ∧ υ.1 59 m = -1) ∧ υ.1 47 m = υ.1 43 (n : Int)) M = x
              intro gs li x2
              obtain ⟨y1, y2, y3, _⟩ := li.resolve_left (fun z => by omega)
              refine ga_iinc (z := ((n + 1 : Nat) : Int)) (lv2 := [_, _, _, _]) dX8_keep_72 (by decide) rfl rfl (by omega) (⟨by omega, by omega⟩) rfl ?_
              refine ga_goto (tgt := 39) dX8_keep_75 rfl ?_
              refine k _ (exc_st (exc_st hu (by decide)) (by decide)) (fun i a b => ?_) ?_
              · show ga_up (υ.1 58) n x i = _
                rw [gs]
                by_cases q : i = n
                · rw [q, ga_up_at, ga_up_at]
                · rw [ga_up_ne _ _ q, ga_up_ne _ _ q]; exact w1 i a b
              · rw [gs]
                intro m a b
                show (ga_up (υ.1 59) x n m = -1 ∧ _) ∨ (0 ≤ ga_up (υ.1 59) x n m ∧ ga_up (υ.1 59) x n m < _ ∧ ga_up _ _ _ (ga_up (υ.1 59) x n m) = m)
                by_cases q : m = x
                · right
                  rw [q, ga_up_at, ga_up_at]
                  exact ⟨by omega, by omega, rfl⟩
                · rw [ga_up_ne _ _ q]
                  rcases w2 m a b with ⟨z1, z2⟩ | ⟨z1, z2, z3⟩
                  · refine Or.inl ⟨z1, fun i a2 b2 => ?_⟩
                    by_cases q2 : i = n
                    · rw [q2, ga_up_at]; exact fun z => q z.symm
                    · rw [ga_up_ne _ _ q2]; exact z2 i a2 b2
                  · refine Or.inr ⟨z1, by omega, ?_⟩
                    rw [ga_up_ne _ _ (by omega)]; exact z3
    · omega
  · intro e he k τ hx q1 q2 q3
    have e1 : τ.1 38 0 = L := by rw [hx.1 38 (by decide)]; exact h38
    have l := lnI e (by omega) (by omega)
    have c := h40 e (by omega) (by omega)
    have e2 : τ.1 39 e = ln β e := by rw [hx.1 39 (by decide)]; exact h39 e (by omega) (by omega)
    have e3 : τ.1 40 e = c2 e := by rw [hx.1 40 (by decide)]; exact c.1
    refine ga_iload_n dX8_keep_7 rfl ?_
    refine ga_aload_n dX8_keep_8 rfl ?_
    refine hg_getI 0 grX8_9 dX8_keep_9 rfl rfl rfl ?_
    refine ga_icmp_ge (tgt := 37) dX8_keep_12 rfl (fun c_12 => ?_) (fun c_12 => ?_)
    · omega
    · refine ga_aload_n dX8_keep_15 rfl ?_
      refine ga_aload_n dX8_keep_16 rfl ?_
      refine hg_getR grX8_15 dX8_keep_17 rfl rfl ?_
      refine ga_iload_n dX8_keep_20 rfl ?_
      refine hg_iald dX8_keep_21 rfl (by omega) (by omega) ?_
      rw [e2]
      refine ga_aload_n dX8_keep_22 rfl ?_
      refine hg_getR grX8_19 dX8_keep_23 rfl rfl ?_
      refine ga_iload_n dX8_keep_26 rfl ?_
      refine hg_iald dX8_keep_27 rfl (by omega) (by omega) ?_
      rw [e3]
      refine hc_Vv (T_X5_pairDevices (ln β e) (c2 e) τ l.1 (by omega) c.2.1 c.2.2) fX5_pairDevices rfl kX5_pairDevices lkX8_73 dX8_keep_28 rfl rfl rfl rfl rfl rfl rfl rfl ?_
      refine ga_iinc (z := ((e + 1 : Nat) : Int)) (lv2 := [_, _, _, _]) dX8_keep_31 (by decide) rfl rfl (by omega) (⟨by omega, by omega⟩) rfl ?_
      refine ga_goto (tgt := 7) dX8_keep_34 rfl ?_
      refine k _ (exc_st (exc_st hx (by decide)) (by decide)) q1 (CSr_s q2 (fun i a b z => ?_)) (CSr_s q3 (fun i a b z => ?_))
      · have := lnJ i e a (by omega) (by omega) (by omega) z; omega
      · have := hj i e a (by omega) (by omega) (by omega) z; omega
