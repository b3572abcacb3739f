-- Search: nextCandidate, begin
theorem hc_SP {t mc ms kc ks : Nat} {M : ga_M0} {P : ga_Po} {X : ga_Px} {pc : Nat} {lv : List (Option ga_V)} {st st2 : List ga_V} {σ : ga_S} {t' n : Nat} {M' : ga_M0} {as : List ga_V} {P' : ga_Po} {idx : Nat} (hM : ga_Mt t' 0 0 M' as (HP σ) P' ga_nox) (hF : ga_MF M' n) (hhh : ga_hh M' = []) (hV : ga_MS M') (hlk : Cond.methodLink (ga_y M).cls idx (ga_y M') ∈ ga_big) (hd : decode (ga_b M) pc = .ok (.invokestatic idx, 3)) (hst : st = as.reverse ++ st2) (hln : as.length = n) (ht : Nat.ble (t' + 1) t = true) (hcat : Nat.ble (ga_cats st2) 8 = true) (hkc : Nat.ble kc mc = true) (hks : Nat.ble ks ms = true)
    (k : ∀ v h2, P' v h2 → ga_W t mc ms kc ks M P X (pc + 3) lv (v.toList ++ st2) h2) : ga_W t mc ms kc ks M P X pc lv st (HP σ) :=
  ga_callS hM hF hhh hV hlk hd hst hln (Nat.le_of_ble_eq_true ht) (Nat.le_of_ble_eq_true hcat) (Nat.le_of_ble_eq_true hkc) (Nat.le_of_ble_eq_true hks) k
theorem T_X8_nextCandidate (p : Int) (σ : ga_S) (E : Nat) (hE : σ.1 9 3 = E) (hE2 : E ≤ 30) (p1 : 0 ≤ p) (p2 : p < 30) (l1 : 0 ≤ σ.1 39 p) (l2 : σ.1 39 p < 30) (t1 : -1 ≤ σ.1 40 p) (t2 : σ.1 40 p + 1 ≤ E) : ga_Mt 1 0 0 mX8_nextCandidate [Vr 38, Vr 1, Vr 21, Vi p] (HP σ) (gis (some (Vi (lstF (fun e => σ.1 40 p < e ∧ (σ.1 14 e = 0 ∧ σ.1 41 e = 0) ∧ σ.1 23 (1 * 30 + e) = σ.1 23 (0 * 30 + σ.1 39 p)) E))) σ) ga_nox := by
  refine ga_meth [some (Vr 38), some (Vr 1), some (Vr 21), some (Vi p), none, none, none] rfl rfl (by decide +kernel) (Nat.le_of_ble_eq_true rfl) rfl ?_
  refine ga_aload_n dX8_nextCandidate_0 rfl ?_
  refine ga_iconst dX8_nextCandidate_1 ⟨by decide, by decide⟩ ?_
  refine ga_aload_n dX8_nextCandidate_2 rfl ?_
  refine hg_getR grX8_15 dX8_nextCandidate_3 rfl rfl ?_
  refine ga_iload_n dX8_nextCandidate_6 rfl ?_
  refine hg_iald dX8_nextCandidate_7 rfl (by omega) (by omega) ?_
  refine hc_V (T_X0_classOf 0 (σ.1 39 p) σ (by decide) (by decide) (by omega) (by omega) (by omega)) fX0_classOf rfl kX0_classOf lkX8_132 dX8_nextCandidate_8 rfl rfl rfl rfl rfl rfl rfl rfl ?_
  refine ga_istore (lv2 := [_, _, _, _, _, _, _]) dX8_nextCandidate_11 (by decide) rfl rfl ?_
  refine ga_aload_n dX8_nextCandidate_13 rfl ?_
  refine hg_getR grX8_19 dX8_nextCandidate_14 rfl rfl ?_
  refine ga_iload_n dX8_nextCandidate_17 rfl ?_
  refine hg_iald dX8_nextCandidate_18 rfl (by omega) (by omega) ?_
  refine ga_iconst dX8_nextCandidate_19 ⟨by decide, by decide⟩ ?_
  refine ga_iadd (z := ((σ.1 40 p + 1).toNat : Int)) dX8_nextCandidate_20 (by omega) (⟨by omega, by omega⟩) ?_
  refine ga_istore (lv2 := [_, _, _, _, _, _, _]) dX8_nextCandidate_21 (by decide) rfl rfl ?_
  refine (ga_loop E (fun i => σ.1 40 p < i → (∀ e : Int, σ.1 40 p < e → e < i → ¬ ((σ.1 14 e = 0 ∧ σ.1 41 e = 0) ∧ σ.1 23 (1 * 30 + e) = σ.1 23 (0 * 30 + σ.1 39 p))) → ∀ z, ga_W 1 0 0 0 0 mX8_nextCandidate (gis (some (Vi (lstF (fun e => σ.1 40 p < e ∧ (σ.1 14 e = 0 ∧ σ.1 41 e = 0) ∧ σ.1 23 (1 * 30 + e) = σ.1 23 (0 * 30 + σ.1 39 p)) E))) σ) ga_nox 23 [some (Vr 38), some (Vr 1), some (Vr 21), some (Vi p), some (Vi (σ.1 23 (0 * 30 + σ.1 39 p))), some (Vi (i : Int)), z] [] (HP σ)) ?_ ?_ (σ.1 40 p + 1).toNat (by omega) (by omega) (fun e a b => by omega) none : _)
  · intro _ hno z
    have e : lstF (fun e => σ.1 40 p < e ∧ (σ.1 14 e = 0 ∧ σ.1 41 e = 0) ∧ σ.1 23 (1 * 30 + e) = σ.1 23 (0 * 30 + σ.1 39 p)) E = -1 := by
      rcases lstF_is (fun e => σ.1 40 p < e ∧ (σ.1 14 e = 0 ∧ σ.1 41 e = 0) ∧ σ.1 23 (1 * 30 + e) = σ.1 23 (0 * 30 + σ.1 39 p)) E with ⟨q, _⟩ | ⟨q1, q2, q3, _⟩
      · exact q
      · exact absurd q3.2 (hno _ q3.1 q2)
    refine ga_iload dX8_nextCandidate_23 rfl ?_
    refine ga_aload_n dX8_nextCandidate_25 rfl ?_
    refine hg_getR grX8_91 dX8_nextCandidate_26 rfl rfl ?_
    refine hg_getI 3 grX8_113 dX8_nextCandidate_29 rfl rfl rfl ?_
    refine ga_icmp_ge (tgt := 91) dX8_nextCandidate_32 rfl (fun c_32 => ?_) (fun c_32 => ?_)
    · refine ga_iconst dX8_nextCandidate_91 ⟨by decide, by decide⟩ ?_
      refine ga_ret (v := some _) ?_ rfl (by decide) (by decide) ⟨dX8_nextCandidate_92, _, rfl, rfl⟩
      exact ⟨by rw [e], rfl⟩
    · omega
  · intro i hi k hs hno z
    have GO : ¬ ((σ.1 14 (i : Int) = 0 ∧ σ.1 41 (i : Int) = 0) ∧ σ.1 23 (1 * 30 + (i : Int)) = σ.1 23 (0 * 30 + σ.1 39 p)) → ∀ z, ga_W 1 0 0 0 0 mX8_nextCandidate (gis (some (Vi (lstF (fun e => σ.1 40 p < e ∧ (σ.1 14 e = 0 ∧ σ.1 41 e = 0) ∧ σ.1 23 (1 * 30 + e) = σ.1 23 (0 * 30 + σ.1 39 p)) E))) σ) ga_nox 85 [some (Vr 38), some (Vr 1), some (Vr 21), some (Vi p), some (Vi (σ.1 23 (0 * 30 + σ.1 39 p))), some (Vi (i : Int)), z] [] (HP σ) := by
      intro hn z
      refine ga_iinc (z := ((i + 1 : Nat) : Int)) (lv2 := [_, _, _, _, _, _, _]) dX8_nextCandidate_85 (by decide) rfl rfl (by omega) (⟨by omega, by omega⟩) rfl ?_
      refine ga_goto (tgt := 23) dX8_nextCandidate_88 rfl ?_
      refine k (by omega) (fun e a b => ?_) _
      rcases Int.lt_or_le e i with q | q
      · exact hno e a q
      · rw [show e = i by omega]; exact hn
    refine ga_iload dX8_nextCandidate_23 rfl ?_
    refine ga_aload_n dX8_nextCandidate_25 rfl ?_
    refine hg_getR grX8_91 dX8_nextCandidate_26 rfl rfl ?_
    refine hg_getI 3 grX8_113 dX8_nextCandidate_29 rfl rfl rfl ?_
    refine ga_icmp_ge (tgt := 91) dX8_nextCandidate_32 rfl (fun c_32 => ?_) (fun c_32 => ?_)
    · omega
    · refine ga_aload_n dX8_nextCandidate_35 rfl ?_
      refine hg_getR grX8_91 dX8_nextCandidate_36 rfl rfl ?_
      refine hg_getR grX8_114 dX8_nextCandidate_39 rfl rfl ?_
      refine ga_iload dX8_nextCandidate_42 rfl ?_
      refine hg_zald dX8_nextCandidate_44 rfl (by omega) (by omega) ?_
      refine ga_if_ne (tgt := 62) dX8_nextCandidate_45 rfl (fun c_45 => ?_) (fun c_45 => ?_)
      · refine ga_iconst dX8_nextCandidate_62 ⟨by decide, by decide⟩ ?_
        refine ga_istore (lv2 := [_, _, _, _, _, _, _]) dX8_nextCandidate_63 (by decide) rfl rfl ?_
        refine ga_iload dX8_nextCandidate_65 rfl ?_
        refine ga_if_eq (tgt := 85) dX8_nextCandidate_67 rfl (fun c_67 => ?_) (fun c_67 => ?_)
        · exact GO (fun z => c_45 z.1.1) _
        · exact absurd rfl c_67
      · refine ga_aload_n dX8_nextCandidate_48 rfl ?_
        refine hg_getR grX8_22 dX8_nextCandidate_49 rfl rfl ?_
        refine ga_iload dX8_nextCandidate_52 rfl ?_
        refine hg_zald dX8_nextCandidate_54 rfl (by omega) (by omega) ?_
        refine ga_if_ne (tgt := 62) dX8_nextCandidate_55 rfl (fun c_55 => ?_) (fun c_55 => ?_)
        · refine ga_iconst dX8_nextCandidate_62 ⟨by decide, by decide⟩ ?_
          refine ga_istore (lv2 := [_, _, _, _, _, _, _]) dX8_nextCandidate_63 (by decide) rfl rfl ?_
          refine ga_iload dX8_nextCandidate_65 rfl ?_
          refine ga_if_eq (tgt := 85) dX8_nextCandidate_67 rfl (fun c_67 => ?_) (fun c_67 => ?_)
          · exact GO (fun z => c_55 z.1.2) _
          · exact absurd rfl c_67
        · refine ga_iconst dX8_nextCandidate_58 ⟨by decide, by decide⟩ ?_
          refine ga_goto (tgt := 63) dX8_nextCandidate_59 rfl ?_
          refine ga_istore (lv2 := [_, _, _, _, _, _, _]) dX8_nextCandidate_63 (by decide) rfl rfl ?_
          refine ga_iload dX8_nextCandidate_65 rfl ?_
          refine ga_if_eq (tgt := 85) dX8_nextCandidate_67 rfl (fun c_67 => ?_) (fun c_67 => ?_)
          · exact absurd c_67 (by decide)
          · refine ga_aload_n dX8_nextCandidate_70 rfl ?_
            refine ga_iconst dX8_nextCandidate_71 ⟨by decide, by decide⟩ ?_
            refine ga_iload dX8_nextCandidate_72 rfl ?_
            refine hc_V (T_X0_classOf 1 i σ (by decide) (by decide) (by omega) (by omega) (by omega)) fX0_classOf rfl kX0_classOf lkX8_132 dX8_nextCandidate_74 rfl rfl rfl rfl rfl rfl rfl rfl ?_
            refine ga_iload dX8_nextCandidate_77 rfl ?_
            refine ga_icmp_ne (tgt := 85) dX8_nextCandidate_79 rfl (fun c_79 => ?_) (fun c_79 => ?_)
            · exact GO (fun z => c_79 z.2) _
            · refine ga_iload dX8_nextCandidate_82 rfl ?_
              refine ga_ret (v := some _) ?_ rfl (by decide) (by decide) ⟨dX8_nextCandidate_84, _, rfl, rfl⟩
              exact ⟨by rw [lstF_one (by omega) (by omega) ⟨hs, ⟨c_45, c_55⟩, c_79⟩ (fun e a b z => hno e z.1 b z.2)], rfl⟩
noncomputable def spF (port1 : Int → Int) (N : Nat) (q : Int) : Int := if q ≠ -1 then firstF (fun n => decide (port1 n ≠ -1 ∧ port1 n = q)) N 0 + 1 else 0
theorem firstF_is (p : Int → Bool) : ∀ (n : Nat) (i : Int), 0 ≤ i → (firstF p n i = -1 ∧ ∀ j : Int, i ≤ j → j < i + n → p j = false) ∨ (i ≤ firstF p n i ∧ firstF p n i < i + n ∧ p (firstF p n i) = true)
  | 0, i, h => Or.inl ⟨rfl, fun j a b => by omega⟩
  | n + 1, i, h => by
    unfold firstF
    by_cases q : p i = true
    · rw [if_pos q]
      exact Or.inr ⟨Int.le_refl _, by omega, q⟩
    · rw [if_neg q]
      rcases firstF_is p n (i + 1) (by omega) with ⟨a, b⟩ | ⟨a, b, c⟩
      · refine Or.inl ⟨a, fun j j1 j2 => ?_⟩
        by_cases q2 : j = i
        · rw [q2]; exact Bool.eq_false_iff.mpr q
        · exact b j (by omega) (by omega)
      · exact Or.inr ⟨by omega, by omega, c⟩
theorem spF_is {port1 : Int → Int} {N : Nat} {q : Int} (hq : q ≠ -1) : (spF port1 N q = 0 ∧ ∀ n : Int, 0 ≤ n → n < N → port1 n ≠ q) ∨ (1 ≤ spF port1 N q ∧ spF port1 N q ≤ N ∧ port1 (spF port1 N q - 1) = q) := by
  unfold spF
  rw [if_pos hq]
  rcases firstF_is (fun n => decide (port1 n ≠ -1 ∧ port1 n = q)) N 0 (Int.le_refl _) with ⟨a, b⟩ | ⟨a, b, c⟩
  · refine Or.inl ⟨by omega, fun n n1 n2 z => ?_⟩
    have := b n n1 (by omega)
    exact absurd ⟨by omega, z⟩ (of_decide_eq_false this)
  · refine Or.inr ⟨by omega, by omega, ?_⟩
    have := (of_decide_eq_true c).2
    rw [Int.add_sub_cancel]
    exact this
theorem T_X8_sortByPorts_2 (σ : ga_S) (N M : Nat) (hN : σ.1 2 0 = N) (hN2 : N ≤ 40) (hM : σ.1 2 0 = M) (hM2 : M ≤ 40) : ga_Mt 2 0 0 mX8_sortByPorts [Vr 2, Vr 2, Vr 43] (HP σ) (fun v h => ∃ τ, exc [43] σ τ ∧ (∀ n : Int, 0 ≤ n → n < M → τ.1 43 n = spF (σ.1 3) N (σ.1 3 n)) ∧ v = none ∧ h = HP τ) ga_nox := by
  refine ga_meth [some (Vr 2), some (Vr 2), some (Vr 43), none] rfl rfl (by decide +kernel) (Nat.le_of_ble_eq_true rfl) rfl ?_
  refine ga_iconst dX8_sortByPorts_0 ⟨by decide, by decide⟩ ?_
  refine ga_istore_n (lv2 := [_, _, _, _]) dX8_sortByPorts_1 (by decide) rfl rfl ?_
  refine (ga_loop M (fun i => ∀ τ, exc [43] σ τ → (∀ n : Int, 0 ≤ n → n < i → τ.1 43 n = spF (σ.1 3) N (σ.1 3 n)) → ga_W 2 0 0 0 0 mX8_sortByPorts (fun v h => ∃ τ, exc [43] σ τ ∧ (∀ n : Int, 0 ≤ n → n < M → τ.1 43 n = spF (σ.1 3) N (σ.1 3 n)) ∧ v = none ∧ h = HP τ) ga_nox 2 [some (Vr 2), some (Vr 2), some (Vr 43), some (Vi (i : Int))] [] (HP τ)) ?_ ?_ 0 (Nat.zero_le _) σ exc_r (fun n a b => by omega) : _)
  · intro τ hx hn
    have e1 : τ.1 2 0 = M := by rw [hx.1 2 (by decide)]; exact hM
    refine ga_iload_n dX8_sortByPorts_2 rfl ?_
    refine ga_aload_n dX8_sortByPorts_3 rfl ?_
    refine hg_getI 0 grX8_83 dX8_sortByPorts_4 rfl rfl rfl ?_
    refine ga_icmp_ge (tgt := 43) dX8_sortByPorts_7 rfl (fun c_7 => ?_) (fun c_7 => ?_)
    · refine ga_ret (v := none) ?_ rfl (by decide) (by decide) ⟨dX8_sortByPorts_43, rfl⟩
      exact ⟨τ, hx, hn, rfl, rfl⟩
    · omega
  · intro i hi k τ hx hn
    have e1 : τ.1 2 0 = M := by rw [hx.1 2 (by decide)]; exact hM
    have e2 : τ.1 2 0 = N := by rw [hx.1 2 (by decide)]; exact hN
    have e3 := hx.1 3 (by decide)
    have e4 := hx.1 3 (by decide)
    have TAIL : ∀ v : Int, v = spF (σ.1 3) N (σ.1 3 i) → ga_W 2 0 0 0 0 mX8_sortByPorts (fun v h => ∃ τ, exc [43] σ τ ∧ (∀ n : Int, 0 ≤ n → n < M → τ.1 43 n = spF (σ.1 3) N (σ.1 3 n)) ∧ v = none ∧ h = HP τ) ga_nox 36 [some (Vr 2), some (Vr 2), some (Vr 43), some (Vi (i : Int))] [Vi v, Vi (i : Int), Vr 43] (HP τ) := by
      intro v hv
      refine hg_iast dX8_sortByPorts_36 rfl (by omega) (by omega) ?_
      refine ga_iinc (z := ((i + 1 : Nat) : Int)) (lv2 := [_, _, _, _]) dX8_sortByPorts_37 (by decide) rfl rfl (by omega) (⟨by omega, by omega⟩) rfl ?_
      refine ga_goto (tgt := 2) dX8_sortByPorts_40 rfl ?_
      refine k _ (exc_st hx (by decide)) (fun n a b => ?_)
      show ga_up (τ.1 43) i v n = _
      by_cases z : n = i
      · rw [z, ga_up_at, hv]
      · rw [ga_up_ne _ _ z]; exact hn n a (by omega)
    refine ga_iload_n dX8_sortByPorts_2 rfl ?_
    refine ga_aload_n dX8_sortByPorts_3 rfl ?_
    refine hg_getI 0 grX8_83 dX8_sortByPorts_4 rfl rfl rfl ?_
    refine ga_icmp_ge (tgt := 43) dX8_sortByPorts_7 rfl (fun c_7 => ?_) (fun c_7 => ?_)
    · omega
    · refine ga_aload_n dX8_sortByPorts_10 rfl ?_
      refine ga_iload_n dX8_sortByPorts_11 rfl ?_
      refine ga_aload_n dX8_sortByPorts_12 rfl ?_
      refine ga_iload_n dX8_sortByPorts_13 rfl ?_
      refine hc_V (T_X9_isPort_2 i τ (by omega) (by omega)) fX9_isPort rfl kX9_isPort lkX8_121 dX8_sortByPorts_14 rfl rfl rfl rfl rfl rfl rfl rfl ?_
      refine ga_if_eq (tgt := 35) dX8_sortByPorts_17 rfl (fun c_17 => ?_) (fun c_17 => ?_)
      · rw [tv_eq0, e4, Classical.not_not] at c_17
        refine ga_iconst dX8_sortByPorts_35 ⟨by decide, by decide⟩ ?_
        exact TAIL 0 (by unfold spF; rw [if_neg (fun z => z c_17)])
      · rw [tv_ne0, e4] at c_17
        have r := spF_is (port1 := σ.1 3) (N := N) c_17
        have r2 : spF (σ.1 3) N (σ.1 3 i) = firstF (fun n => decide (σ.1 3 n ≠ -1 ∧ σ.1 3 n = σ.1 3 i)) N 0 + 1 := if_pos c_17
        refine ga_aload_n dX8_sortByPorts_20 rfl ?_
        refine ga_aload_n dX8_sortByPorts_21 rfl ?_
        refine hg_getR grX8_125 dX8_sortByPorts_22 rfl rfl ?_
        refine ga_iload_n dX8_sortByPorts_25 rfl ?_
        refine hg_iald dX8_sortByPorts_26 rfl (by omega) (by omega) ?_
        rw [e4]
        refine hc_V (T_X9_portNamed_2 (σ.1 3 i) τ N e2 hN2) fX9_portNamed rfl kX9_portNamed lkX8_128 dX8_sortByPorts_27 rfl rfl rfl rfl rfl rfl rfl rfl ?_
        rw [e3]
        refine ga_iconst dX8_sortByPorts_30 ⟨by decide, by decide⟩ ?_
        refine ga_iadd dX8_sortByPorts_31 rfl (⟨by omega, by omega⟩) ?_
        refine ga_goto (tgt := 36) dX8_sortByPorts_32 rfl ?_
        exact TAIL _ r2.symm
theorem T_X8_sortByPorts_9 (σ : ga_S) (N M : Nat) (hN : σ.1 2 0 = N) (hN2 : N ≤ 40) (hM : σ.1 9 0 = M) (hM2 : M ≤ 40) : ga_Mt 2 0 0 mX8_sortByPorts [Vr 9, Vr 2, Vr 47] (HP σ) (fun v h => ∃ τ, exc [47] σ τ ∧ (∀ n : Int, 0 ≤ n → n < M → τ.1 47 n = spF (σ.1 3) N (σ.1 10 n)) ∧ v = none ∧ h = HP τ) ga_nox := by
  refine ga_meth [some (Vr 9), some (Vr 2), some (Vr 47), none] rfl rfl (by decide +kernel) (Nat.le_of_ble_eq_true rfl) rfl ?_
  refine ga_iconst dX8_sortByPorts_0 ⟨by decide, by decide⟩ ?_
  refine ga_istore_n (lv2 := [_, _, _, _]) dX8_sortByPorts_1 (by decide) rfl rfl ?_
  refine (ga_loop M (fun i => ∀ τ, exc [47] σ τ → (∀ n : Int, 0 ≤ n → n < i → τ.1 47 n = spF (σ.1 3) N (σ.1 10 n)) → ga_W 2 0 0 0 0 mX8_sortByPorts (fun v h => ∃ τ, exc [47] σ τ ∧ (∀ n : Int, 0 ≤ n → n < M → τ.1 47 n = spF (σ.1 3) N (σ.1 10 n)) ∧ v = none ∧ h = HP τ) ga_nox 2 [some (Vr 9), some (Vr 2), some (Vr 47), some (Vi (i : Int))] [] (HP τ)) ?_ ?_ 0 (Nat.zero_le _) σ exc_r (fun n a b => by omega) : _)
  · intro τ hx hn
    have e1 : τ.1 9 0 = M := by rw [hx.1 9 (by decide)]; exact hM
    refine ga_iload_n dX8_sortByPorts_2 rfl ?_
    refine ga_aload_n dX8_sortByPorts_3 rfl ?_
    refine hg_getI 0 grX8_83 dX8_sortByPorts_4 rfl rfl rfl ?_
    refine ga_icmp_ge (tgt := 43) dX8_sortByPorts_7 rfl (fun c_7 => ?_) (fun c_7 => ?_)
    · refine ga_ret (v := none) ?_ rfl (by decide) (by decide) ⟨dX8_sortByPorts_43, rfl⟩
      exact ⟨τ, hx, hn, rfl, rfl⟩
    · omega
  · intro i hi k τ hx hn
    have e1 : τ.1 9 0 = M := by rw [hx.1 9 (by decide)]; exact hM
    have e2 : τ.1 2 0 = N := by rw [hx.1 2 (by decide)]; exact hN
    have e3 := hx.1 3 (by decide)
    have e4 := hx.1 10 (by decide)
    have TAIL : ∀ v : Int, v = spF (σ.1 3) N (σ.1 10 i) → ga_W 2 0 0 0 0 mX8_sortByPorts (fun v h => ∃ τ, exc [47] σ τ ∧ (∀ n : Int, 0 ≤ n → n < M → τ.1 47 n = spF (σ.1 3) N (σ.1 10 n)) ∧ v = none ∧ h = HP τ) ga_nox 36 [some (Vr 9), some (Vr 2), some (Vr 47), some (Vi (i : Int))] [Vi v, Vi (i : Int), Vr 47] (HP τ) := by
      intro v hv
      refine hg_iast dX8_sortByPorts_36 rfl (by omega) (by omega) ?_
      refine ga_iinc (z := ((i + 1 : Nat) : Int)) (lv2 := [_, _, _, _]) dX8_sortByPorts_37 (by decide) rfl rfl (by omega) (⟨by omega, by omega⟩) rfl ?_
      refine ga_goto (tgt := 2) dX8_sortByPorts_40 rfl ?_
      refine k _ (exc_st hx (by decide)) (fun n a b => ?_)
      show ga_up (τ.1 47) i v n = _
      by_cases z : n = i
      · rw [z, ga_up_at, hv]
      · rw [ga_up_ne _ _ z]; exact hn n a (by omega)
    refine ga_iload_n dX8_sortByPorts_2 rfl ?_
    refine ga_aload_n dX8_sortByPorts_3 rfl ?_
    refine hg_getI 0 grX8_83 dX8_sortByPorts_4 rfl rfl rfl ?_
    refine ga_icmp_ge (tgt := 43) dX8_sortByPorts_7 rfl (fun c_7 => ?_) (fun c_7 => ?_)
    · omega
    · refine ga_aload_n dX8_sortByPorts_10 rfl ?_
      refine ga_iload_n dX8_sortByPorts_11 rfl ?_
      refine ga_aload_n dX8_sortByPorts_12 rfl ?_
      refine ga_iload_n dX8_sortByPorts_13 rfl ?_
      refine hc_V (T_X9_isPort_9 i τ (by omega) (by omega)) fX9_isPort rfl kX9_isPort lkX8_121 dX8_sortByPorts_14 rfl rfl rfl rfl rfl rfl rfl rfl ?_
      refine ga_if_eq (tgt := 35) dX8_sortByPorts_17 rfl (fun c_17 => ?_) (fun c_17 => ?_)
      · rw [tv_eq0, e4, Classical.not_not] at c_17
        refine ga_iconst dX8_sortByPorts_35 ⟨by decide, by decide⟩ ?_
        exact TAIL 0 (by unfold spF; rw [if_neg (fun z => z c_17)])
      · rw [tv_ne0, e4] at c_17
        have r := spF_is (port1 := σ.1 3) (N := N) c_17
        have r2 : spF (σ.1 3) N (σ.1 10 i) = firstF (fun n => decide (σ.1 3 n ≠ -1 ∧ σ.1 3 n = σ.1 10 i)) N 0 + 1 := if_pos c_17
        refine ga_aload_n dX8_sortByPorts_20 rfl ?_
        refine ga_aload_n dX8_sortByPorts_21 rfl ?_
        refine hg_getR grX8_125 dX8_sortByPorts_22 rfl rfl ?_
        refine ga_iload_n dX8_sortByPorts_25 rfl ?_
        refine hg_iald dX8_sortByPorts_26 rfl (by omega) (by omega) ?_
        rw [e4]
        refine hc_V (T_X9_portNamed_2 (σ.1 10 i) τ N e2 hN2) fX9_portNamed rfl kX9_portNamed lkX8_128 dX8_sortByPorts_27 rfl rfl rfl rfl rfl rfl rfl rfl ?_
        rw [e3]
        refine ga_iconst dX8_sortByPorts_30 ⟨by decide, by decide⟩ ?_
        refine ga_iadd dX8_sortByPorts_31 rfl (⟨by omega, by omega⟩) ?_
        refine ga_goto (tgt := 36) dX8_sortByPorts_32 rfl ?_
        exact TAIL _ r2.symm
theorem lnC_s (β : ga_S) (e : Nat) : lnC β (e + 1) = lnC β e + tv (bL β e) := rfl
theorem lnC_b (β : ga_S) (e : Nat) : 0 ≤ lnC β e ∧ lnC β e ≤ e := sz_b (fun _ => tv_le)
theorem lnC_mono (β : ga_S) {a b : Nat} (h : a ≤ b) : lnC β a ≤ lnC β b := sz_len h
theorem ln_at {β : ga_S} {e : Nat} (he : e < 30) (hl : bL β e) : ln β (lnC β e) = e := by
  unfold ln
  refine lstF_one (by omega) (by omega) ⟨hl, by rw [Int.toNat_natCast]⟩ (fun i i1 i2 z => ?_)
  have a := lnC_s β i.toNat
  rw [Int.toNat_of_nonneg i1, tv1 z.1] at a
  have b := lnC_mono β (a := i.toNat + 1) (b := e) (by omega)
  have := z.2
  omega
/-- each place before the e-th has its device -/
theorem ln_in {β : ga_S} : ∀ {e : Nat}, e ≤ 30 → ∀ i : Int, 0 ≤ i → i < lnC β e → 0 ≤ ln β i ∧ ln β i < e ∧ bL β (ln β i) ∧ lnC β (ln β i).toNat = i
  | 0, _, i, h1, h2 => absurd h2 (by have : lnC β 0 = 0 := rfl; omega)
  | e + 1, he, i, h1, h2 => by
    rw [lnC_s] at h2
    by_cases q : i < lnC β e
    · have := ln_in (e := e) (by omega) i h1 q
      exact ⟨this.1, by omega, this.2.2⟩
    · by_cases hl : bL β e
      · rw [tv1 hl] at h2
        have e1 : i = lnC β e := by omega
        rw [e1, ln_at (by omega) hl]
        exact ⟨by omega, by omega, hl, by rw [Int.toNat_natCast]⟩
      · rw [tvz hl] at h2
        omega
theorem T_X8_begin (σ β : ga_S) (N D M E : Nat) (hd : dsg σ β N D M E) : ga_Mt 3 0 0 mX8_begin [Vr 38, Vr 1] (HP σ) (fun v h => ∃ τ, exc [38, 39, 40, 41, 43, 47] σ τ ∧ τ.1 38 0 = lnC β 30 ∧ (∀ i : Int, 0 ≤ i → i < lnC β 30 → τ.1 39 i = ln β i) ∧ (∀ i : Int, 0 ≤ i → i < 30 → τ.1 40 i = -1) ∧ (∀ i : Int, 0 ≤ i → i < 30 → τ.1 41 i = 0) ∧ (∀ n : Int, 0 ≤ n → n < N → τ.1 43 n = spF (σ.1 3) N (σ.1 3 n)) ∧ (∀ n : Int, 0 ≤ n → n < M → τ.1 47 n = spF (σ.1 3) N (σ.1 10 n)) ∧ v = none ∧ h = HP τ) ga_nox := by
  have h1 := hd.1
  have h2 := hd.2.1
  have hD := h1.1.2.2.1
  have hD2 := h1.1.2.2.2.1
  have hN := h1.1.1
  have hN2 := h1.1.2.1
  have hM := h2.1.1
  have hM2 := h2.1.2.1
  refine ga_meth [some (Vr 38), some (Vr 1), none] rfl rfl (by decide +kernel) (Nat.le_of_ble_eq_true rfl) rfl ?_
  refine ga_aload_n dX8_begin_0 rfl ?_
  refine hg_getR grX8_19 dX8_begin_1 rfl rfl ?_
  refine ga_iconst dX8_begin_4 ⟨by decide, by decide⟩ ?_
  refine hc_Sv (T_J7_fill rfl (by decide)) fJ7_fill_53178 rfl kJ7_fill_53178 lkX8_107 dX8_begin_5 rfl rfl rfl rfl rfl rfl ?_
  refine ga_aload_n dX8_begin_8 rfl ?_
  refine ga_iconst dX8_begin_9 ⟨by decide, by decide⟩ ?_
  refine hg_putI 0 gfX8_9 dX8_begin_10 rfl rfl rfl ?_
  refine ga_iconst dX8_begin_13 ⟨by decide, by decide⟩ ?_
  refine ga_istore_n (lv2 := [_, _, _]) dX8_begin_14 (by decide) rfl rfl ?_
  refine (ga_loop D (fun d => ∀ τ, exc [38, 39, 40] σ τ → τ.1 38 0 = lnC β d → (∀ i : Int, 0 ≤ i → i < lnC β d → τ.1 39 i = ln β i) → (∀ i : Int, 0 ≤ i → i < 30 → τ.1 40 i = -1) → ga_W 3 0 0 0 0 mX8_begin (fun v h => ∃ τ, exc [38, 39, 40, 41, 43, 47] σ τ ∧ τ.1 38 0 = lnC β 30 ∧ (∀ i : Int, 0 ≤ i → i < lnC β 30 → τ.1 39 i = ln β i) ∧ (∀ i : Int, 0 ≤ i → i < 30 → τ.1 40 i = -1) ∧ (∀ i : Int, 0 ≤ i → i < 30 → τ.1 41 i = 0) ∧ (∀ n : Int, 0 ≤ n → n < N → τ.1 43 n = spF (σ.1 3) N (σ.1 3 n)) ∧ (∀ n : Int, 0 ≤ n → n < M → τ.1 47 n = spF (σ.1 3) N (σ.1 10 n)) ∧ v = none ∧ h = HP τ) ga_nox 15 [some (Vr 38), some (Vr 1), some (Vi (d : Int))] [] (HP τ)) ?_ ?_ 0 (Nat.zero_le _) (stI (stI σ 40 (fillF (σ.1 40) ((30 : Nat) : Int) (-1))) 38 (ga_up (σ.1 38) 0 0)) (exc_st (exc_st exc_r (by decide)) (by decide)) rfl (fun i a b => by have : lnC β 0 = 0 := rfl; omega) (fun i a b => fillF_in ⟨a, by omega⟩) : _)
  · intro τ hx q1 q2 q3
    have e1 : τ.1 2 3 = D := by rw [hx.1 2 (by decide)]; exact hD
    have e30 : lnC β 30 = lnC β D := by
      have key : ∀ r : Nat, D + r ≤ 30 → lnC β (D + r) = lnC β D := by
        intro r
        induction r with
        | zero => intro _; rfl
        | succ r ih =>
          intro hr
          have := agF_dead h1 (d := ((D + r : Nat) : Int)) (by omega) (by omega)
          rw [show 30 * 0 + ((D + r : Nat) : Int) = ((D + r : Nat) : Int) by omega] at this
          rw [← Nat.add_assoc, lnC_s, tvz this, ih (by omega)]
          omega
      have := key (30 - D) (by omega)
      rw [show D + (30 - D) = 30 by omega] at this
      exact this
    refine ga_iload_n dX8_begin_15 rfl ?_
    refine ga_aload_n dX8_begin_16 rfl ?_
    refine hg_getR grX8_77 dX8_begin_17 rfl rfl ?_
    refine hg_getI 3 grX8_113 dX8_begin_20 rfl rfl rfl ?_
    refine ga_icmp_ge (tgt := 64) dX8_begin_23 rfl (fun c_23 => ?_) (fun c_23 => ?_)
    · refine ga_iconst dX8_begin_64 ⟨by decide, by decide⟩ ?_
      refine ga_istore_n (lv2 := [_, _, _]) dX8_begin_65 (by decide) rfl rfl ?_
      refine (ga_loop 30 (fun d => ∀ υ, exc [38, 39, 40, 41] σ υ → υ.1 38 = τ.1 38 → υ.1 39 = τ.1 39 → υ.1 40 = τ.1 40 → (∀ i : Int, 0 ≤ i → i < d → υ.1 41 i = 0) → ga_W 3 0 0 0 0 mX8_begin (fun v h => ∃ τ, exc [38, 39, 40, 41, 43, 47] σ τ ∧ τ.1 38 0 = lnC β 30 ∧ (∀ i : Int, 0 ≤ i → i < lnC β 30 → τ.1 39 i = ln β i) ∧ (∀ i : Int, 0 ≤ i → i < 30 → τ.1 40 i = -1) ∧ (∀ i : Int, 0 ≤ i → i < 30 → τ.1 41 i = 0) ∧ (∀ n : Int, 0 ≤ n → n < N → τ.1 43 n = spF (σ.1 3) N (σ.1 3 n)) ∧ (∀ n : Int, 0 ≤ n → n < M → τ.1 47 n = spF (σ.1 3) N (σ.1 10 n)) ∧ v = none ∧ h = HP τ) ga_nox 66 [some (Vr 38), some (Vr 1), some (Vi (d : Int))] [] (HP υ)) ?_ ?_ 0 (Nat.zero_le _) τ (exc_m hx (by decide)) rfl rfl rfl (fun i a b => by omega) : _)
      · intro υ hu u1 u2 u3 u4
        refine ga_iload_n dX8_begin_66 rfl ?_
        refine ga_bipush dX8_begin_67 ⟨by decide, by decide⟩ (by decide) ?_
        refine ga_icmp_ge (tgt := 85) dX8_begin_69 rfl (fun c_69 => ?_) (fun c_69 => ?_)
        · refine ga_aload_n dX8_begin_85 rfl ?_
          refine hg_getR grX8_77 dX8_begin_86 rfl rfl ?_
          refine ga_aload_n dX8_begin_89 rfl ?_
          refine hg_getR grX8_77 dX8_begin_90 rfl rfl ?_
          refine ga_aload_n dX8_begin_93 rfl ?_
          refine hg_getR grX8_29 dX8_begin_94 rfl rfl ?_
          refine hg_getR grX8_101 dX8_begin_97 rfl rfl ?_
          refine hc_SP (T_X8_sortByPorts_2 υ N N (by rw [hu.1 2 (by decide)]; exact hN) hN2 (by rw [hu.1 2 (by decide)]; exact hN) hN2) fX8_sortByPorts rfl kX8_sortByPorts lkX8_117 dX8_begin_100 rfl rfl rfl rfl rfl rfl ?_
          rintro v h ⟨υ2, x1, x2, x3, x4⟩
          rw [x3, x4]
          refine ga_aload_n dX8_begin_103 rfl ?_
          refine hg_getR grX8_91 dX8_begin_104 rfl rfl ?_
          refine ga_aload_n dX8_begin_107 rfl ?_
          refine hg_getR grX8_77 dX8_begin_108 rfl rfl ?_
          refine ga_aload_n dX8_begin_111 rfl ?_
          refine hg_getR grX8_33 dX8_begin_112 rfl rfl ?_
          refine hg_getR grX8_101 dX8_begin_115 rfl rfl ?_
          refine hc_SP (T_X8_sortByPorts_9 υ2 N M (by rw [x1.1 2 (by decide), hu.1 2 (by decide)]; exact hN) hN2 (by rw [x1.1 9 (by decide), hu.1 9 (by decide)]; exact hM) hM2) fX8_sortByPorts rfl kX8_sortByPorts lkX8_117 dX8_begin_118 rfl rfl rfl rfl rfl rfl ?_
          rintro v h ⟨υ3, w1, w2, w3, w4⟩
          rw [w3, w4]
          refine ga_ret (v := none) ?_ rfl (by decide) (by decide) ⟨dX8_begin_121, rfl⟩
          refine ⟨υ3, exc_tr (exc_tr hu x1 (L := [38, 39, 40, 41, 43, 47]) (by decide) (by decide)) w1 (by decide) (by decide), ?_, ?_, ?_, ?_, ?_, ?_, rfl, rfl⟩
          · rw [w1.1 38 (by decide), x1.1 38 (by decide), u1, e30]; exact q1
          · intro i a b
            rw [w1.1 39 (by decide), x1.1 39 (by decide), u2]; exact q2 i a (by omega)
          · rw [w1.1 40 (by decide), x1.1 40 (by decide), u3]; exact q3
          · intro i a b
            rw [w1.1 41 (by decide), x1.1 41 (by decide)]; exact u4 i a b
          · intro n a b
            rw [w1.1 43 (by decide), x2 n a b, hu.1 3 (by decide)]
          · intro n a b
            rw [w2 n a b, x1.1 3 (by decide), x1.1 10 (by decide), hu.1 3 (by decide), hu.1 10 (by decide)]
        · omega
      · intro i hi k υ hu u1 u2 u3 u4
        refine ga_iload_n dX8_begin_66 rfl ?_
        refine ga_bipush dX8_begin_67 ⟨by decide, by decide⟩ (by decide) ?_
        refine ga_icmp_ge (tgt := 85) dX8_begin_69 rfl (fun c_69 => ?_) (fun c_69 => ?_)
        · omega
        · refine ga_aload_n dX8_begin_72 rfl ?_
          refine hg_getR grX8_22 dX8_begin_73 rfl rfl ?_
          refine ga_iload_n dX8_begin_76 rfl ?_
          refine ga_iconst dX8_begin_77 ⟨by decide, by decide⟩ ?_
          refine hg_zast dX8_begin_78 rfl (by omega) (by omega) (by omega) ?_
          refine ga_iinc (z := ((i + 1 : Nat) : Int)) (lv2 := [_, _, _]) dX8_begin_79 (by decide) rfl rfl (by omega) (⟨by omega, by omega⟩) rfl ?_
          refine ga_goto (tgt := 66) dX8_begin_82 rfl ?_
          refine k _ (exc_st hu (by decide)) u1 u2 u3 (fun j a b => ?_)
          show ga_up (υ.1 41) i 0 j = 0
          by_cases q : j = i
          · rw [q, ga_up_at]
          · rw [ga_up_ne _ _ q]; exact u4 j a (by omega)
    · omega
  · intro d hdd k τ hx q1 q2 q3
    have e1 : τ.1 2 3 = D := by rw [hx.1 2 (by decide)]; exact hD
    have e2 := hx.1 7 (by decide)
    have hl := agF_live h1 (d := (d : Int)) (by omega) (by omega)
    rw [show 30 * 0 + (d : Int) = (d : Int) by omega] at hl
    have lb := lnC_b β d
    have ls := lnC_s β d
    refine ga_iload_n dX8_begin_15 rfl ?_
    refine ga_aload_n dX8_begin_16 rfl ?_
    refine hg_getR grX8_77 dX8_begin_17 rfl rfl ?_
    refine hg_getI 3 grX8_113 dX8_begin_20 rfl rfl rfl ?_
    refine ga_icmp_ge (tgt := 64) dX8_begin_23 rfl (fun c_23 => ?_) (fun c_23 => ?_)
    · omega
    · refine ga_aload_n dX8_begin_26 rfl ?_
      refine hg_getR grX8_77 dX8_begin_27 rfl rfl ?_
      refine hg_getR grX8_114 dX8_begin_30 rfl rfl ?_
      refine ga_iload_n dX8_begin_33 rfl ?_
      refine hg_zald dX8_begin_34 rfl (by omega) (by omega) ?_
      refine ga_if_ne (tgt := 58) dX8_begin_35 rfl (fun c_35 => ?_) (fun c_35 => ?_)
      · rw [e2] at c_35
        rw [tvz (fun z => c_35 (hl.mp z)), Int.add_zero] at ls
        refine ga_iinc (z := ((d + 1 : Nat) : Int)) (lv2 := [_, _, _]) dX8_begin_58 (by decide) rfl rfl (by omega) (⟨by omega, by omega⟩) rfl ?_
        refine ga_goto (tgt := 15) dX8_begin_61 rfl ?_
        exact k τ hx (by rw [ls]; exact q1) (fun i a b => q2 i a (by rw [← ls]; exact b)) q3
      · rw [e2] at c_35
        have hb := hl.mpr c_35
        rw [tv1 hb] at ls
        refine ga_aload_n dX8_begin_38 rfl ?_
        refine hg_getR grX8_15 dX8_begin_39 rfl rfl ?_
        refine ga_aload_n dX8_begin_42 rfl ?_
        refine hg_getI 0 grX8_9 dX8_begin_43 rfl rfl rfl ?_
        rw [q1]
        refine ga_iload_n dX8_begin_46 rfl ?_
        refine hg_iast dX8_begin_47 rfl (by omega) (by omega) ?_
        refine ga_aload_n dX8_begin_48 rfl ?_
        refine ga_dup dX8_begin_49 rfl ?_
        refine hg_getI 0 grX8_9 dX8_begin_50 rfl rfl rfl ?_
        have q1b : ∀ f, (stI τ 39 f).1 38 0 = lnC β d := fun _ => q1
        rw [q1b]
        refine ga_iconst dX8_begin_53 ⟨by decide, by decide⟩ ?_
        refine ga_iadd dX8_begin_54 rfl (⟨by omega, by omega⟩) ?_
        refine hg_putI 0 gfX8_9 dX8_begin_55 rfl rfl rfl ?_
        refine ga_iinc (z := ((d + 1 : Nat) : Int)) (lv2 := [_, _, _]) dX8_begin_58 (by decide) rfl rfl (by omega) (⟨by omega, by omega⟩) rfl ?_
        refine ga_goto (tgt := 15) dX8_begin_61 rfl ?_
        refine k _ (exc_st (exc_st hx (by decide)) (by decide)) ?_ (fun i a b => ?_) q3
        · rw [ls]
          show ga_up (τ.1 38) 0 (lnC β d + 1) 0 = _
          exact ga_up_at _ _ _
        · show ga_up (τ.1 39) (lnC β d) (d : Int) i = _
          by_cases z : i = lnC β d
          · rw [z, ga_up_at, ln_at (by omega) hb]
          · rw [ga_up_ne _ _ z]; exact q2 i a (by omega)
