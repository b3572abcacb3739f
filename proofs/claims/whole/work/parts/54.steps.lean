-- Search: its steps
abbrev SC : List Nat := [38, 39, 40, 41, 42, 43, 44, 45, 46, 47, 48, 49, 50, 51, 52, 53, 54]
def FI (β : ga_S) (E : Nat) (L d : Int) (ch : Int → Int) (σ τ : ga_S) : Prop := exc SC σ τ ∧ τ.1 38 0 = L ∧ (∀ i : Int, 0 ≤ i → i < L → τ.1 39 i = ln β i) ∧ (∀ i : Int, 0 ≤ i → i < 30 → τ.1 40 i = ch i) ∧ (∀ i : Int, d < i → 0 ≤ i → ch i = -1) ∧ (∀ i : Int, 0 ≤ i → i < d → 0 ≤ ch i ∧ ch i < E ∧ bL β (30 + ch i)) ∧ (∀ i j : Int, 0 ≤ i → i < d → 0 ≤ j → j < d → ch i = ch j → i = j) ∧ (∀ e : Int, 0 ≤ e → e < 30 → (τ.1 41 e = 0 ↔ ∀ i : Int, 0 ≤ i → i < d → ch i ≠ e)) ∧ (0 ≤ d → -1 ≤ ch d ∧ ch d + 1 ≤ E) ∧ (0 ≤ d → hst β ch (τ.1 51) (τ.1 52) (τ.1 53) (τ.1 54) d.toNat (τ.1 43) (τ.1 47))
def FPo (β : ga_S) (E : Nat) (L : Int) (r : Int) (c2 : Int → Int) (σ : ga_S) : ga_Po := fun v h => ∃ τ, exc SC σ τ ∧ v = some (Vi r) ∧ h = HP τ ∧ (r = 1 → FI β E L L c2 σ τ)
theorem W_find {σ β : ga_S} {N D M E : Nat} {R : Int → Int} {P : Nat} {lim L r : Int} {c2 : Int → Int} (hd : dsg σ β N D M E) (hh : agH (σ.2 18) β) (hf : fpB β) (hn : numb 60 (bL β) (σ.1 23) P R) (hL : L = lnC β 30) : ∀ (n : Nat) (d : Int) (ch : Int → Int) (t k : Int) (τ : ga_S) (z : Option ga_V), Srch β R lim L n d ch t r c2 → FI β E L d ch σ τ → -1 ≤ d → d ≤ L → 0 ≤ t → t + n < 10000 → 0 ≤ k → k + n < 4002 → ga_W 4 0 0 0 0 mX8_find (FPo β E L r c2 σ) ga_nox 14 [some (Vr 38), some (Vr 1), some (Vr 21), some (Vi lim), some (Vi d), some (Vi t), some (Vi k), z] [] (HP τ) := by
  have h2 := hd.2.1
  have hE := h2.1.2.2.1
  have hE2 := h2.1.2.2.2.1
  have hL2 := lnC_b β 30
  have lnI := fun i : Int => fun a : 0 ≤ i => fun b : i < L => ln_in (β := β) (e := 30) (Nat.le_refl _) i a (by omega)
  intro n
  -- what is looked for, and what the class finds
  have FIND : ∀ (d : Int) (ch : Int → Int) (τ : ga_S), FI β E L d ch σ τ → 0 ≤ d → d < L → ∀ e : Int, 0 ≤ e → e < E → ((τ.1 40 d < e ∧ (τ.1 14 e = 0 ∧ τ.1 41 e = 0) ∧ τ.1 23 (1 * 30 + e) = τ.1 23 (0 * 30 + τ.1 39 d)) ↔ ch d < e ∧ cand β R d ch e) := by
    intro d ch τ ⟨f1, f2, f3, f4, f5, f6, f7, f8, f9, f10⟩ d1 d2 e e1 e2
    have li := lnI d d1 d2
    have lv := agF_live h2 e1 e2
    rw [show 30 * 1 + e = 30 + e by omega] at lv
    rw [f4 d d1 (by omega), f1.1 14 (by decide), f8 e e1 (by omega), f1.1 23 (by decide), f3 d d1 d2, ← lv, show 1 * 30 + e = 30 + e by omega, show 0 * 30 + ln β d = ln β d by omega]
    unfold cand
    constructor
    · rintro ⟨a, ⟨b, c⟩, g⟩
      exact ⟨a, b, c, (hn.2.2.1 (30 + e) (ln β d) (by omega) (by omega) li.1 (by omega) b li.2.2.1).mp g⟩
    · rintro ⟨a, b, c, g⟩
      exact ⟨a, ⟨b, c⟩, (hn.2.2.1 (30 + e) (ln β d) (by omega) (by omega) li.1 (by omega) b li.2.2.1).mpr g⟩
  have NXT : ∀ (d : Int) (ch : Int → Int) (τ : ga_S), FI β E L d ch σ τ → 0 ≤ d → d < L → (lstF (fun e => τ.1 40 d < e ∧ (τ.1 14 e = 0 ∧ τ.1 41 e = 0) ∧ τ.1 23 (1 * 30 + e) = τ.1 23 (0 * 30 + τ.1 39 d)) E = -1 ∧ ∀ e, ¬ isC β R d ch e) ∨ (isC β R d ch (lstF (fun e => τ.1 40 d < e ∧ (τ.1 14 e = 0 ∧ τ.1 41 e = 0) ∧ τ.1 23 (1 * 30 + e) = τ.1 23 (0 * 30 + τ.1 39 d)) E) ∧ lstF (fun e => τ.1 40 d < e ∧ (τ.1 14 e = 0 ∧ τ.1 41 e = 0) ∧ τ.1 23 (1 * 30 + e) = τ.1 23 (0 * 30 + τ.1 39 d)) E < E) := by
    intro d ch τ hF d1 d2
    have F := FIND d ch τ hF d1 d2
    rcases lstF_is (fun e => τ.1 40 d < e ∧ (τ.1 14 e = 0 ∧ τ.1 41 e = 0) ∧ τ.1 23 (1 * 30 + e) = τ.1 23 (0 * 30 + τ.1 39 d)) E with ⟨q1, q2⟩ | ⟨q1, q2, q3, q4⟩
    · refine Or.inl ⟨q1, fun e he => ?_⟩
      obtain ⟨e1, e2, e3, e4, e5⟩ := he
      rcases Int.lt_or_le e E with w | w
      · exact q2 e e1 w ((F e e1 w).mpr ⟨e3, e4⟩)
      · exact absurd e4.1 (by have := agF_dead h2 w e2; rw [show 30 * 1 + e = 30 + e by omega] at this; exact this)
    · refine Or.inr ⟨?_, q2⟩
      have := (F _ q1 q2).mp q3
      exact ⟨q1, by omega, this.1, this.2, fun e2 a b c g => q4 e2 a b ((F e2 a (by omega)).mpr ⟨c, g⟩)⟩
  induction n with
  | zero =>
    intro d ch t k τ z hs hF d1 d2 t1 t2 k1 k2
    have hF2 := hF
    obtain ⟨f1, f2, f3, f4, f5, f6, f7, f8, f9, f10⟩ := hF2
    rcases hs with ⟨s1, s2⟩ | ⟨s1, s2, s3, s4⟩ | ⟨s1, s2, s3, s4, s5⟩
    · refine ga_iload dX8_find_14 rfl ?_
      refine ga_sipush dX8_find_16 ⟨by decide, by decide⟩ (by decide) ?_
      refine ga_icmp_ge (tgt := 116) dX8_find_19 rfl (fun c_19 => ?_) (fun c_19 => ?_)
      · omega
      · refine ga_iload dX8_find_22 rfl ?_
        refine ga_if_lt (tgt := 116) dX8_find_24 rfl (fun c_24 => ?_) (fun c_24 => ?_)
        · refine ga_iload dX8_find_116 rfl ?_
          refine ga_aload_n dX8_find_118 rfl ?_
          refine hg_getI 0 grX8_9 dX8_find_119 rfl rfl rfl ?_
          refine ga_icmp_lt (tgt := 129) dX8_find_122 rfl (fun c_122 => ?_) (fun c_122 => ?_)
          · refine ga_iconst dX8_find_129 ⟨by decide, by decide⟩ ?_
            refine ga_ret (v := some _) ?_ rfl (by decide) (by decide) ⟨dX8_find_130, _, rfl, rfl⟩
            exact ⟨τ, f1, by rw [s2], rfl, fun q => by omega⟩
          · omega
        · omega
    · have e1 : d = L := by omega
      refine ga_iload dX8_find_14 rfl ?_
      refine ga_sipush dX8_find_16 ⟨by decide, by decide⟩ (by decide) ?_
      refine ga_icmp_ge (tgt := 116) dX8_find_19 rfl (fun c_19 => ?_) (fun c_19 => ?_)
      · omega
      · refine ga_iload dX8_find_22 rfl ?_
        refine ga_if_lt (tgt := 116) dX8_find_24 rfl (fun c_24 => ?_) (fun c_24 => ?_)
        · omega
        · refine ga_iload dX8_find_27 rfl ?_
          refine ga_aload_n dX8_find_29 rfl ?_
          refine hg_getI 0 grX8_9 dX8_find_30 rfl rfl rfl ?_
          refine ga_icmp_lt (tgt := 39) dX8_find_33 rfl (fun c_33 => ?_) (fun c_33 => ?_)
          · omega
          · refine ga_goto (tgt := 116) dX8_find_36 rfl ?_
            refine ga_iload dX8_find_116 rfl ?_
            refine ga_aload_n dX8_find_118 rfl ?_
            refine hg_getI 0 grX8_9 dX8_find_119 rfl rfl rfl ?_
            refine ga_icmp_lt (tgt := 129) dX8_find_122 rfl (fun c_122 => ?_) (fun c_122 => ?_)
            · omega
            · refine ga_iconst dX8_find_125 ⟨by decide, by decide⟩ ?_
              refine ga_goto (tgt := 130) dX8_find_126 rfl ?_
              refine ga_ret (v := some _) ?_ rfl (by decide) (by decide) ⟨dX8_find_130, _, rfl, rfl⟩
              exact ⟨τ, f1, by rw [s3], rfl, fun _ => by rw [s4]; rw [e1] at hF; exact hF⟩
    · have li := lnI d s1 s2
      have f9' := f9 s1
      refine ga_iload dX8_find_14 rfl ?_
      refine ga_sipush dX8_find_16 ⟨by decide, by decide⟩ (by decide) ?_
      refine ga_icmp_ge (tgt := 116) dX8_find_19 rfl (fun c_19 => ?_) (fun c_19 => ?_)
      · omega
      · refine ga_iload dX8_find_22 rfl ?_
        refine ga_if_lt (tgt := 116) dX8_find_24 rfl (fun c_24 => ?_) (fun c_24 => ?_)
        · omega
        · refine ga_iload dX8_find_27 rfl ?_
          refine ga_aload_n dX8_find_29 rfl ?_
          refine hg_getI 0 grX8_9 dX8_find_30 rfl rfl rfl ?_
          refine ga_icmp_lt (tgt := 39) dX8_find_33 rfl (fun c_33 => ?_) (fun c_33 => ?_)
          · have NX := NXT d ch τ hF s1 s2
            refine ga_aload_n dX8_find_39 rfl ?_
            refine ga_aload_n dX8_find_40 rfl ?_
            refine ga_aload_n dX8_find_41 rfl ?_
            refine ga_iload dX8_find_42 rfl ?_
            refine hc_V (T_X8_nextCandidate d τ E (by rw [f1.1 9 (by decide)]; exact hE) hE2 s1 (by omega) (by rw [f3 d s1 s2]; exact li.1) (by rw [f3 d s1 s2]; omega) (by rw [f4 d s1 (by omega)]; exact f9'.1) (by rw [f4 d s1 (by omega)]; exact f9'.2)) fX8_nextCandidate rfl kX8_nextCandidate lkX8_55 dX8_find_44 rfl rfl rfl rfl rfl rfl rfl rfl ?_
            revert NX
            generalize lstF (fun e => τ.1 40 d < e ∧ (τ.1 14 e = 0 ∧ τ.1 41 e = 0) ∧ τ.1 23 (1 * 30 + e) = τ.1 23 (0 * 30 + τ.1 39 d)) E = x
            intro NX
            rcases NX with ⟨x1, x2⟩ | ⟨x1, x2⟩
            · obtain ⟨e, he⟩ := s3
              exact absurd he (x2 e)
            · have x3 := x1.1
              refine ga_istore (lv2 := [_, _, _, _, _, _, _, _]) dX8_find_47 (by decide) rfl rfl ?_
              refine ga_iload dX8_find_49 rfl ?_
              refine ga_iconst dX8_find_51 ⟨by decide, by decide⟩ ?_
              refine ga_icmp_ne (tgt := 75) dX8_find_52 rfl (fun c_52 => ?_) (fun c_52 => ?_)
              · refine ga_iload dX8_find_75 rfl ?_
                refine ga_iload_n dX8_find_77 rfl ?_
                refine ga_icmp_lt (tgt := 83) dX8_find_78 rfl (fun c_78 => ?_) (fun c_78 => ?_)
                · omega
                · refine ga_iconst dX8_find_81 ⟨by decide, by decide⟩ ?_
                  refine ga_ret (v := some _) ?_ rfl (by decide) (by decide) ⟨dX8_find_82, _, rfl, rfl⟩
                  exact ⟨τ, f1, by rw [s5], rfl, fun q => by omega⟩
              · omega
          · omega
  | succ n ih =>
    intro d ch t k τ z hs hF d1 d2 t1 t2 k1 k2
    have hF2 := hF
    obtain ⟨f1, f2, f3, f4, f5, f6, f7, f8, f9, f10⟩ := hF2
    obtain ⟨s1, s2, s3⟩ := hs
    have li := lnI d s1 s2
    have f9' := f9 s1
    have f10' := f10 s1
    have NX := NXT d ch τ hF s1 s2
    have hdt : ∀ τ, exc SC σ τ → dsg τ β N D M E := fun τ h => dsg_exc h (by decide) hd
    refine ga_iload dX8_find_14 rfl ?_
    refine ga_sipush dX8_find_16 ⟨by decide, by decide⟩ (by decide) ?_
    refine ga_icmp_ge (tgt := 116) dX8_find_19 rfl (fun c_19 => ?_) (fun c_19 => ?_)
    · omega
    · refine ga_iload dX8_find_22 rfl ?_
      refine ga_if_lt (tgt := 116) dX8_find_24 rfl (fun c_24 => ?_) (fun c_24 => ?_)
      · omega
      · refine ga_iload dX8_find_27 rfl ?_
        refine ga_aload_n dX8_find_29 rfl ?_
        refine hg_getI 0 grX8_9 dX8_find_30 rfl rfl rfl ?_
        refine ga_icmp_lt (tgt := 39) dX8_find_33 rfl (fun c_33 => ?_) (fun c_33 => ?_)
        rotate_left
        · omega
        · refine ga_aload_n dX8_find_39 rfl ?_
          refine ga_aload_n dX8_find_40 rfl ?_
          refine ga_aload_n dX8_find_41 rfl ?_
          refine ga_iload dX8_find_42 rfl ?_
          refine hc_V (T_X8_nextCandidate d τ E (by rw [f1.1 9 (by decide)]; exact hE) hE2 s1 (by omega) (by rw [f3 d s1 s2]; exact li.1) (by rw [f3 d s1 s2]; omega) (by rw [f4 d s1 (by omega)]; exact f9'.1) (by rw [f4 d s1 (by omega)]; exact f9'.2)) fX8_nextCandidate rfl kX8_nextCandidate lkX8_55 dX8_find_44 rfl rfl rfl rfl rfl rfl rfl rfl ?_
          revert NX
          generalize lstF (fun e => τ.1 40 d < e ∧ (τ.1 14 e = 0 ∧ τ.1 41 e = 0) ∧ τ.1 23 (1 * 30 + e) = τ.1 23 (0 * 30 + τ.1 39 d)) E = x
          intro NX
          rcases NX with ⟨x1, x2⟩ | ⟨x1, x2⟩
          · rcases s3 with ⟨_, s4⟩ | ⟨e, he, _, _⟩
            · subst x1
              refine ga_istore (lv2 := [_, _, _, _, _, _, _, _]) dX8_find_47 (by decide) rfl rfl ?_
              refine ga_iload dX8_find_49 rfl ?_
              refine ga_iconst dX8_find_51 ⟨by decide, by decide⟩ ?_
              refine ga_icmp_ne (tgt := 75) dX8_find_52 rfl (fun c_52 => ?_) (fun c_52 => ?_)
              · exact absurd rfl c_52
              · refine ga_aload_n dX8_find_55 rfl ?_
                refine hg_getR grX8_19 dX8_find_56 rfl rfl ?_
                refine ga_iload dX8_find_59 rfl ?_
                refine ga_iconst dX8_find_61 ⟨by decide, by decide⟩ ?_
                refine hg_iast dX8_find_62 rfl (by omega) (by omega) ?_
                refine ga_iinc (z := d - 1) (lv2 := [_, _, _, _, _, _, _, _]) dX8_find_63 (by decide) rfl rfl (by omega) (⟨by omega, by omega⟩) rfl ?_
                have F40 : ∀ i : Int, 0 ≤ i → i < 30 → ga_up (τ.1 40) d (-1) i = ga_up ch d (-1) i := by
                  intro i a b
                  by_cases q : i = d
                  · rw [q, ga_up_at, ga_up_at]
                  · rw [ga_up_ne _ _ q, ga_up_ne _ _ q]; exact f4 i a b
                have F5 : ∀ i : Int, d - 1 < i → 0 ≤ i → ga_up ch d (-1) i = -1 := by
                  intro i a b
                  by_cases q : i = d
                  · rw [q, ga_up_at]
                  · rw [ga_up_ne _ _ q]; exact f5 i (by omega) b
                by_cases q0 : d = 0
                · refine ga_aload_n dX8_find_66 rfl ?_
                  refine ga_iload dX8_find_67 rfl ?_
                  refine hc_Vv (T_X8_undoN (d - 1) _ (by omega)) fX8_undo rfl kX8_undo lkX8_59 dX8_find_69 rfl rfl rfl rfl rfl rfl rfl rfl ?_
                  refine ga_goto (tgt := 110) dX8_find_72 rfl ?_
                  refine ga_iinc (z := k + 1) (lv2 := [_, _, _, _, _, _, _, _]) dX8_find_110 (by decide) rfl rfl (by omega) (⟨by omega, by omega⟩) rfl ?_
                  refine ga_goto (tgt := 14) dX8_find_113 rfl ?_
                  refine ih (d - 1) (ga_up ch d (-1)) t (k + 1) _ _ s4 ⟨exc_st f1 (by decide), f2, f3, F40, F5, fun i a b => by omega, fun i j a b => by omega, fun e a b => ?_, fun q => by omega, fun q => by omega⟩ (by omega) (by omega) t1 (by omega) (by omega) (by omega)
                  show τ.1 41 e = 0 ↔ _
                  rw [f8 e a b]
                  exact ⟨fun _ i a b => by omega, fun _ i a b => by omega⟩
                · obtain ⟨dm, hdm⟩ : ∃ dm : Nat, d = dm + 1 := ⟨(d - 1).toNat, by omega⟩
                  have hst2 := f10'
                  rw [hdm, show (((dm : Nat) : Int) + 1).toNat = dm + 1 by omega] at hst2
                  obtain ⟨_, c, c1, c2', c3, c4⟩ := hst2
                  have e1 : d - 1 = dm := by omega
                  have g6 := f6 dm (by omega) (by omega)
                  have u40 : ga_up (τ.1 40) d (-1) dm = ch dm := by rw [F40 dm (by omega) (by omega), ga_up_ne _ _ (by omega)]
                  refine ga_aload_n dX8_find_66 rfl ?_
                  refine ga_iload dX8_find_67 rfl ?_
                  refine hc_VP (T_X8_undo (d - 1) _ c (by omega) (by omega) (by rw [e1]; exact c1) c2' (by rw [e1]; show 0 ≤ ga_up (τ.1 40) d (-1) dm ∧ ga_up (τ.1 40) d (-1) dm < 30; rw [u40]; omega) (by rw [e1]; exact c3)) fX8_undo rfl kX8_undo lkX8_59 dX8_find_69 rfl rfl rfl rfl rfl rfl rfl rfl ?_
                  rintro v h ⟨τ2, w1, w2, w3, w4, w5, w6⟩
                  rw [w5, w6]
                  rw [e1] at w2 w3 w4
                  have w2' : τ2.1 41 = ga_up (τ.1 41) (ch dm) 0 := by
                    rw [w2]
                    show ga_up (τ.1 41) (ga_up (τ.1 40) d (-1) dm) 0 = _
                    rw [u40]
                  refine ga_goto (tgt := 110) dX8_find_72 rfl ?_
                  refine ga_iinc (z := k + 1) (lv2 := [_, _, _, _, _, _, _, _]) dX8_find_110 (by decide) rfl rfl (by omega) (⟨by omega, by omega⟩) rfl ?_
                  refine ga_goto (tgt := 14) dX8_find_113 rfl ?_
                  refine ih (d - 1) (ga_up ch d (-1)) t (k + 1) _ _ s4 ⟨exc_tr (exc_st f1 (by decide)) w1 (fun _ q => q) (by decide), by rw [w1.1 38 (by decide)]; exact f2, fun i a b => by rw [w1.1 39 (by decide)]; exact f3 i a b, fun i a b => by rw [w1.1 40 (by decide)]; exact F40 i a b, F5, fun i a b => ?_, fun i j a b a' b' => ?_, fun e a b => ?_, fun _ => ?_, fun _ => ?_⟩ (by omega) (by omega) t1 (by omega) (by omega) (by omega)
                  · rw [ga_up_ne _ _ (by omega)]; exact f6 i a (by omega)
                  · rw [ga_up_ne _ _ (by omega), ga_up_ne _ _ (by omega)]; exact f7 i j a (by omega) a' (by omega)
                  · rw [w2']
                    by_cases q : e = ch dm
                    · rw [q, ga_up_at]
                      refine ⟨fun _ i a b => ?_, fun _ => rfl⟩
                      rw [ga_up_ne _ _ (by omega)]
                      exact fun w => by have := f7 i dm a (by omega) (by omega) (by omega) w; omega
                    · rw [ga_up_ne _ _ q, f8 e a b]
                      constructor
                      · intro w i a b
                        rw [ga_up_ne _ _ (by omega)]; exact w i a (by omega)
                      · intro w i a b
                        by_cases q2 : i = dm
                        · rw [q2]; exact fun w => q w.symm
                        · have := w i a (by omega)
                          rw [ga_up_ne _ _ (by omega)] at this
                          exact this
                  · rw [ga_up_ne _ _ (by omega), e1]; omega
                  · rw [w1.1 51 (by decide), w1.1 52 (by decide), w1.1 53 (by decide), w1.1 54 (by decide), w3, w4, show (d - 1).toNat = dm by omega]
                    exact hst_cg (fun i a b => ⟨by rw [ga_up_ne _ _ (by omega)], rfl⟩) (fun j _ => ⟨rfl, rfl, rfl⟩) c4
            · exact absurd he (x2 e)
          · rcases s3 with ⟨s4, _⟩ | ⟨e, he, s4, s5⟩
            · exact absurd x1 (s4 x)
            · have ex : x = e := isC_one x1 he
              subst ex
              obtain ⟨y1, y2, y3, y4, y5⟩ := x1
              refine ga_istore (lv2 := [_, _, _, _, _, _, _, _]) dX8_find_47 (by decide) rfl rfl ?_
              refine ga_iload dX8_find_49 rfl ?_
              refine ga_iconst dX8_find_51 ⟨by decide, by decide⟩ ?_
              refine ga_icmp_ne (tgt := 75) dX8_find_52 rfl (fun c_52 => ?_) (fun c_52 => ?_)
              · refine ga_iload dX8_find_75 rfl ?_
                refine ga_iload_n dX8_find_77 rfl ?_
                refine ga_icmp_lt (tgt := 83) dX8_find_78 rfl (fun c_78 => ?_) (fun c_78 => ?_)
                · refine ga_iinc (z := t + 1) (lv2 := [_, _, _, _, _, _, _, _]) dX8_find_83 (by decide) rfl rfl (by omega) (⟨by omega, by omega⟩) rfl ?_
                  refine ga_aload_n dX8_find_86 rfl ?_
                  refine hg_getR grX8_19 dX8_find_87 rfl rfl ?_
                  refine ga_iload dX8_find_90 rfl ?_
                  refine ga_iload dX8_find_92 rfl ?_
                  refine hg_iast dX8_find_94 rfl (by omega) (by omega) ?_
                  have F40 : ∀ i : Int, 0 ≤ i → i < 30 → ga_up (τ.1 40) d x i = ga_up ch d x i := by
                    intro i a b
                    by_cases q : i = d
                    · rw [q, ga_up_at, ga_up_at]
                    · rw [ga_up_ne _ _ q, ga_up_ne _ _ q]; exact f4 i a b
                  have AG : ∀ i : Int, 0 ≤ i → i < d → ch i = ga_up ch d x i := fun i a b => (ga_up_ne _ _ (by omega)).symm
                  have tp := hst_top f10'
                  rw [Int.toNat_of_nonneg s1] at tp
                  have x0 : exc SC σ (stI τ 40 (ga_up (τ.1 40) d x)) := exc_st f1 (by decide)
                  have HH : agH ((stI τ 40 (ga_up (τ.1 40) d x)).2 18) β := by rw [x0.2]; exact hh
                  refine ga_aload_n dX8_find_95 rfl ?_
                  refine ga_aload_n dX8_find_96 rfl ?_
                  refine ga_iload dX8_find_97 rfl ?_
                  refine ga_iload dX8_find_99 rfl ?_
                  refine hc_VP (T_X8_pairUp d x _ β (ga_up ch d x) N D M E (hdt _ x0) HH hf s1 (by omega) (f3 d s1 s2) li.1 (by omega) li.2.2.1 y1 y2 y4.1 (ga_up_at _ _ _) (SR_cg AG tp.1) (EV_cg AG tp.2)) fX8_pairUp rfl kX8_pairUp lkX8_63 dX8_find_101 rfl rfl rfl rfl rfl rfl rfl rfl ?_
                  rintro v h ⟨τ2, w1, w2, (⟨w3, w4, w5⟩ | ⟨w3, w4, w5⟩)⟩
                  · rw [w2, w4]
                    have OK : okS β d (ga_up ch d x) := by unfold okS; rw [ga_up_at]; exact w3
                    obtain ⟨v1, v2, c, v3, v4, v5, v6, v7, v8⟩ := w5
                    rcases s5 with ⟨_, s6⟩ | ⟨s6, _⟩
                    · refine ga_if_eq (tgt := 110) dX8_find_104 rfl (fun c_104 => ?_) (fun c_104 => ?_)
                      · exact absurd c_104 (by decide)
                      · refine ga_iinc (z := d + 1) (lv2 := [_, _, _, _, _, _, _, _]) dX8_find_107 (by decide) rfl rfl (by omega) (⟨by omega, by omega⟩) rfl ?_
                        refine ga_iinc (z := k + 1) (lv2 := [_, _, _, _, _, _, _, _]) dX8_find_110 (by decide) rfl rfl (by omega) (⟨by omega, by omega⟩) rfl ?_
                        refine ga_goto (tgt := 14) dX8_find_113 rfl ?_
                        refine ih (d + 1) (ga_up ch d x) (t + 1) (k + 1) τ2 _ s6 ⟨exc_tr x0 w1 (fun _ q => q) (by decide), by rw [w1.1 38 (by decide)]; exact f2, fun i a b => by rw [w1.1 39 (by decide)]; exact f3 i a b, fun i a b => by rw [w1.1 40 (by decide)]; exact F40 i a b, fun i a b => ?_, fun i a b => ?_, fun i j a b a' b' => ?_, fun e a b => ?_, fun _ => ?_, fun _ => ?_⟩ (by omega) (by omega) (by omega) (by omega) (by omega) (by omega)
                        · rw [ga_up_ne _ _ (by omega)]; exact f5 i (by omega) b
                        · by_cases q : i = d
                          · rw [q, ga_up_at]; exact ⟨y1, x2, y4.1⟩
                          · rw [ga_up_ne _ _ q]; exact f6 i a (by omega)
                        · by_cases q : i = d
                          · by_cases q2 : j = d
                            · intro _; rw [q, q2]
                            · rw [q, ga_up_at, ga_up_ne _ _ q2]
                              exact fun w => absurd w.symm (y4.2.1 j a' (by omega))
                          · by_cases q2 : j = d
                            · rw [q2, ga_up_at, ga_up_ne _ _ q]
                              exact fun w => absurd w (y4.2.1 i a (by omega))
                            · rw [ga_up_ne _ _ q, ga_up_ne _ _ q2]
                              exact f7 i j a (by omega) a' (by omega)
                        · rw [v2]
                          show ga_up (τ.1 41) x 1 e = 0 ↔ _
                          by_cases q : e = x
                          · rw [q, ga_up_at]
                            refine ⟨fun w => absurd w (by decide), fun w => ?_⟩
                            have := w d s1 (by omega)
                            rw [ga_up_at] at this
                            exact absurd rfl this
                          · rw [ga_up_ne _ _ q, f8 e a b]
                            constructor
                            · intro w i a b
                              by_cases q2 : i = d
                              · rw [q2, ga_up_at]; exact fun w => q w.symm
                              · rw [ga_up_ne _ _ q2]; exact w i a (by omega)
                            · intro w i a b
                              have := w i a (by omega)
                              rw [ga_up_ne _ _ (by omega)] at this
                              exact this
                        · rw [ga_up_ne _ _ (by omega), f5 (d + 1) (by omega) (by omega)]
                          omega
                        · have dn : ((d.toNat : Nat) : Int) = d := Int.toNat_of_nonneg s1
                          rw [show (d + 1).toNat = d.toNat + 1 by omega]
                          refine ⟨⟨?_, ?_⟩, c, ?_, v3, fun i a b => ?_, ?_⟩
                          · rw [show ((d.toNat + 1 : Nat) : Int) = d + 1 by omega]; exact v1
                          · rw [show ((d.toNat + 1 : Nat) : Int) = d + 1 by omega]; exact w3.2
                          · rw [v4, dn, ga_up_at]
                          · rw [dn]; exact v6 i a b
                          · rw [dn, v7, v8]
                            refine hst_cg (fun i a b => ⟨AG i a (by omega), ?_⟩) (fun j hj => ?_) f10'
                            · rw [v4, ga_up_ne _ _ (by omega)]; rfl
                            · have := v5 j (by omega)
                              exact ⟨this.1.symm, this.2.1.symm, this.2.2.symm⟩
                    · exact absurd OK s6
                  · rw [w2, w4]
                    have NO : ¬ okS β d (ga_up ch d x) := by unfold okS; rw [ga_up_at]; exact w3
                    rcases s5 with ⟨s6, _⟩ | ⟨_, s6⟩
                    · exact absurd s6 NO
                    · refine ga_if_eq (tgt := 110) dX8_find_104 rfl (fun c_104 => ?_) (fun c_104 => ?_)
                      · refine ga_iinc (z := k + 1) (lv2 := [_, _, _, _, _, _, _, _]) dX8_find_110 (by decide) rfl rfl (by omega) (⟨by omega, by omega⟩) rfl ?_
                        refine ga_goto (tgt := 14) dX8_find_113 rfl ?_
                        refine ih d (ga_up ch d x) (t + 1) (k + 1) τ2 _ s6 ⟨exc_tr x0 w1 (fun _ q => q) (by decide), by rw [w1.1 38 (by decide)]; exact f2, fun i a b => by rw [w1.1 39 (by decide)]; exact f3 i a b, fun i a b => by rw [w1.1 40 (by decide)]; exact F40 i a b, fun i a b => ?_, fun i a b => ?_, fun i j a b a' b' => ?_, fun e a b => ?_, fun _ => ?_, fun _ => ?_⟩ (by omega) (by omega) (by omega) (by omega) (by omega) (by omega)
                        · rw [ga_up_ne _ _ (by omega)]; exact f5 i a b
                        · rw [ga_up_ne _ _ (by omega)]; exact f6 i a b
                        · rw [ga_up_ne _ _ (by omega), ga_up_ne _ _ (by omega)]; exact f7 i j a b a' b'
                        · rw [w5.1 41 (by decide)]
                          show τ.1 41 e = 0 ↔ _
                          rw [f8 e a b]
                          constructor
                          · intro w i a b
                            rw [ga_up_ne _ _ (by omega)]; exact w i a b
                          · intro w i a b
                            have := w i a b
                            rw [ga_up_ne _ _ (by omega)] at this
                            exact this
                        · rw [ga_up_at]; omega
                        · rw [w5.1 51 (by decide), w5.1 52 (by decide), w5.1 53 (by decide), w5.1 54 (by decide), w5.1 43 (by decide), w5.1 47 (by decide)]
                          exact hst_cg (fun i a b => ⟨AG i a (by omega), rfl⟩) (fun j _ => ⟨rfl, rfl, rfl⟩) f10'
                      · exact absurd rfl c_104
                · omega
              · omega
