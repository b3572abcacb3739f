-- the law's loop and its start
theorem law_body {L : Nat} {xs : Nat → Int32} (hL : L ≤ 2560) (i : Nat) (hi : i + 5 ≤ L) (kc ks : Nat) (hkc : kc + 1 ≤ 601024) (hks : ks + 6 ≤ 7293034) (σ : ga_S) (hI : IvO σ) (y5 y6 : Option ga_V) (K : ∀ (kc2 ks2 : Nat) (τ : ga_S) (z5 z6 : Option ga_V), kc2 ≤ kc + 1 → ks2 ≤ ks + 6 → IvO τ → ga_W 11 601024 7293034 kc2 ks2 (mL_law L xs) (fun v _ => v = some (Vi 1)) ga_nox 1011 [some (Vr ga_scr), some (Vr 0), some (Vr 63), some (Vr 88), some (Vi (i : Int)), z5, z6] [] (HP τ)) : ga_W 11 601024 7293034 kc ks (mL_law L xs) (fun v _ => v = some (Vi 1)) ga_nox 32 [some (Vr ga_scr), some (Vr 0), some (Vr 63), some (Vr 88), some (Vi (i : Int)), y5, y6] [] (HP σ) := by
  refine ga_aload_n dL_law_32 rfl ?_
  refine ga_iload dL_law_33 rfl ?_
  refine ga_sld rfl dL_law_35 (by omega) (by omega) ?_
  refine ga_bipush dL_law_36 ⟨by decide, by decide⟩ (by decide) ?_
  have b := and15 (xs (i : Int).toNat)
  refine ga_iand (z := (xs (i : Int).toNat &&& 15).toInt) dL_law_38 (by rw [ga_ofI, ga_ofI]; rfl) ⟨by omega, by omega⟩ ?_
  generalize (xs (i : Int).toNat &&& 15).toInt = z at b ⊢
  by_cases q : 13 < z
  · refine ga_tswOut (tgt := 1011) dL_law_39 (Or.inr q) rfl ?_
    exact K _ _ σ _ _ (by omega) (by omega) hI
  rcases (show z = 0 ∨ z = 1 ∨ z = 2 ∨ z = 3 ∨ z = 4 ∨ z = 5 ∨ z = 6 ∨ z = 7 ∨ z = 8 ∨ z = 9 ∨ z = 10 ∨ z = 11 ∨ z = 12 ∨ z = 13 by omega) with q2 | q2 | q2 | q2 | q2 | q2 | q2 | q2 | q2 | q2 | q2 | q2 | q2 | q2 <;> subst q2
  · exact ga_tswIn (off := 69) (tgt := 108) dL_law_39 (by decide) (by decide) rfl rfl (law_net hL i hi kc ks hkc hks σ hI y5 y6 K)
  · exact ga_tswIn (off := 137) (tgt := 176) dL_law_39 (by decide) (by decide) rfl rfl (law_device hL i hi kc ks hkc hks σ hI y5 y6 K)
  · exact ga_tswIn (off := 227) (tgt := 266) dL_law_39 (by decide) (by decide) rfl rfl (law_pin hL i hi kc ks hkc hks σ hI y5 y6 K)
  · exact ga_tswIn (off := 326) (tgt := 365) dL_law_39 (by decide) (by decide) rfl rfl (law_swap hL i hi kc ks hkc hks σ hI y5 y6 K)
  · exact ga_tswIn (off := 413) (tgt := 452) dL_law_39 (by decide) (by decide) rfl rfl (law_share hL i hi kc ks hkc hks σ hI y5 y6 K)
  · exact ga_tswIn (off := 498) (tgt := 537) dL_law_39 (by decide) (by decide) rfl rfl (law_port hL i hi kc ks hkc hks σ hI y5 y6 K)
  · exact ga_tswIn (off := 585) (tgt := 624) dL_law_39 (by decide) (by decide) rfl rfl (law_join hL i hi kc ks hkc hks σ hI y5 y6 K)
  · exact ga_tswIn (off := 653) (tgt := 692) dL_law_39 (by decide) (by decide) rfl rfl (law_run hL i hi kc ks hkc hks σ hI y5 y6 K)
  · exact ga_tswIn (off := 741) (tgt := 780) dL_law_39 (by decide) (by decide) rfl rfl (law_match hL i hi kc ks hkc hks σ hI y5 y6 K)
  · exact ga_tswIn (off := 809) (tgt := 848) dL_law_39 (by decide) (by decide) rfl rfl (law_netMatch hL i hi kc ks hkc hks σ hI y5 y6 K)
  · exact ga_tswIn (off := 865) (tgt := 904) dL_law_39 (by decide) (by decide) rfl rfl (law_differs hL i hi kc ks hkc hks σ hI y5 y6 K)
  · exact ga_tswIn (off := 933) (tgt := 972) dL_law_39 (by decide) (by decide) rfl rfl (law_rounds hL i hi kc ks hkc hks σ hI y5 y6 K)
  · exact ga_tswIn (off := 946) (tgt := 985) dL_law_39 (by decide) (by decide) rfl rfl (law_tried hL i hi kc ks hkc hks σ hI y5 y6 K)
  · exact ga_tswIn (off := 959) (tgt := 998) dL_law_39 (by decide) (by decide) rfl rfl (law_tested hL i hi kc ks hkc hks σ hI y5 y6 K)
theorem law_loop {L : Nat} {xs : Nat → Int32} (hL : L ≤ 2560) : ∀ (k i kc ks : Nat) (σ : ga_S) (y5 y6 : Option ga_V), L < i + 5 * k + 5 → i ≤ 2565 → kc + k ≤ 601024 → ks + 6 * k ≤ 7293034 → IvO σ → ga_W 11 601024 7293034 kc ks (mL_law L xs) (fun v _ => v = some (Vi 1)) ga_nox 23 [some (Vr ga_scr), some (Vr 0), some (Vr 63), some (Vr 88), some (Vi (i : Int)), y5, y6] [] (HP σ) := by
  intro k
  induction k with
  | zero =>
    intro i kc ks σ y5 y6 h1 h2 h3 h4 hI
    refine ga_iload dL_law_23 rfl ?_
    refine ga_aload_n dL_law_25 rfl ?_
    refine ga_slen rfl dL_law_26 ⟨by omega, by omega⟩ ?_
    refine ga_iconst dL_law_27 ⟨by decide, by decide⟩ ?_
    refine ga_isub dL_law_28 rfl ⟨by omega, by omega⟩ ?_
    refine ga_icmp_gt (tgt := 1017) dL_law_29 rfl (fun c => ?_) (fun c => ?_)
    · refine ga_iconst dL_law_1017 ⟨by decide, by decide⟩ ?_
      exact ga_ret (v := some _) rfl rfl (by omega) (by omega) ⟨dL_law_1018, _, rfl, rfl⟩
    · omega
  | succ k ih =>
    intro i kc ks σ y5 y6 h1 h2 h3 h4 hI
    refine ga_iload dL_law_23 rfl ?_
    refine ga_aload_n dL_law_25 rfl ?_
    refine ga_slen rfl dL_law_26 ⟨by omega, by omega⟩ ?_
    refine ga_iconst dL_law_27 ⟨by decide, by decide⟩ ?_
    refine ga_isub dL_law_28 rfl ⟨by omega, by omega⟩ ?_
    refine ga_icmp_gt (tgt := 1017) dL_law_29 rfl (fun c => ?_) (fun c => ?_)
    · refine ga_iconst dL_law_1017 ⟨by decide, by decide⟩ ?_
      exact ga_ret (v := some _) rfl rfl (by omega) (by omega) ⟨dL_law_1018, _, rfl, rfl⟩
    · refine law_body hL i (by omega) kc ks (by omega) (by omega) σ hI y5 y6 (fun kc2 ks2 τ z5 z6 g1 g2 gI => ?_)
      refine ga_iinc (z := ((i + 5 : Nat) : Int)) (lv2 := [_, _, _, _, _, _, _]) dL_law_1011 (show (4 : Nat) < 7 by decide) rfl rfl (by omega) ⟨by omega, by omega⟩ rfl ?_
      refine ga_goto (tgt := 23) dL_law_1014 rfl ?_
      exact ih (i + 5) kc2 ks2 τ z5 z6 (by omega) (by omega) (by omega) (by omega) gI
theorem law_W {L : Nat} {xs : Nat → Int32} (hL : L ≤ 2560) : ga_W 11 601024 7293034 0 0 (mL_law L xs) (fun v _ => v = some (Vi 1)) ga_nox 0 [some (Vr ga_scr), none, none, none, none, none, none] [] [] := by
  refine ga_eqh (h2 := ([] : ga_H) ++ ([] : ga_H)) rfl ?_
  refine gb_new (q := 0) 0 [.inl (10, [Vn, Vn, Vn, Vn, Vn, Vn, Vi 0, Vi 0])] rfl (by omega) rfl nsL_8 dL_law_0 (by decide) (by decide) (by decide) rfl ?_
  refine ga_dup dL_law_3 rfl ?_
  refine ga_callI (host := "") (T_X10_init [] 0 rfl (by decide)) fX10_init rfl kX10_init (Or.inl lkL_55) dL_law_4 rfl rfl (by decide) (Nat.le_of_ble_eq_true rfl) (by decide) (by decide) ?_
  rintro _ _ ⟨rfl, rfl⟩
  refine ga_astore_n (lv2 := [_, _, _, _, _, _, _]) dL_law_7 (show (1 : Nat) < 7 by decide) rfl rfl ?_
  refine ga_eqh (h2 := cI_X10_init 0 ++ ([] : ga_H)) (List.append_nil _).symm ?_
  refine gb_new (q := 63) 0 [.inl (11, [Vi 0, Vn, Vn, Vn, Vn, Vn, Vn, Vn, Vn, Vn, Vn, Vn, Vn, Vn, Vi 0, Vi 0, Vn, Vi 0, Vi 0, Vn, Vn, Vn, Vi 0, Vn, Vn, Vn, Vn, Vn, Vn, Vn, Vl 0, Vl 0])] rfl (by omega) rfl nsL_56 dL_law_8 (by decide) (by decide) (by decide) rfl ?_
  refine ga_dup dL_law_11 rfl ?_
  refine ga_callI (host := "") (T_X11_init (cI_X10_init 0) 63 rfl (by decide)) fX11_init rfl kX11_init (Or.inl lkL_58) dL_law_12 rfl rfl (by decide) (Nat.le_of_ble_eq_true rfl) (by decide) (by decide) ?_
  rintro _ _ ⟨rfl, rfl⟩
  refine ga_astore_n (lv2 := [_, _, _, _, _, _, _]) dL_law_15 (show (2 : Nat) < 7 by decide) rfl rfl ?_
  refine ga_iconst dL_law_16 ⟨by decide, by decide⟩ ?_
  refine ga_newa_long (n := 1) acL dL_law_17 rfl (by decide) (by decide) (by decide) (Nat.le_of_ble_eq_true rfl) heap0 ?_
  rw [show (cI_X10_init 0 ++ cI_X11_init 63).length = 88 from rfl]
  refine ga_astore_n (lv2 := [_, _, _, _, _, _, _]) dL_law_19 (show (3 : Nat) < 7 by decide) rfl rfl ?_
  refine ga_iconst dL_law_20 ⟨by decide, by decide⟩ ?_
  refine ga_istore (lv2 := [_, _, _, _, _, _, _]) dL_law_21 (show (4 : Nat) < 7 by decide) rfl rfl ?_
  exact law_loop hL 512 0 _ _ S0 none none (by omega) (by decide) (by decide) (by decide) IvO_0
