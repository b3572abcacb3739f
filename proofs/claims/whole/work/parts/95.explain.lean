-- the reference: explain
noncomputable def ofk (σ : ga_S) (s : Int) (D : Nat) (k : Int) : Int := sz (fun d => tv (σ.1 68 (30 * s + d) = 0 ∧ σ.1 66 (30 * s + d) = k)) D
/-- how many of a side are in e's class -/
noncomputable def nsR (σ : ga_S) (R : Int → Int) (s : Int) (D : Nat) (e : Int) : Int := sz (fun d => tv (σ.1 68 (30 * s + d) = 0 ∧ R (30 * s + d) = R e)) D
noncomputable def clP (σ : ga_S) (R : Int → Int) (D E : Nat) : Nat → List d4
  | 0 => []
  | e + 1 => clP σ R D E e ++ tif ((bL σ e ∧ ∀ u : Int, 0 ≤ u → u < e → bL σ u → R u ≠ R e) ∧ nsR σ R 0 D e ≠ nsR σ R 1 E e) [(4, (e : Int) % 30, nsR σ R 0 D e, nsR σ R 1 E e)] []
theorem clP_s (σ : ga_S) (R : Int → Int) (D E e : Nat) : clP σ R D E (e + 1) = clP σ R D E e ++ tif ((bL σ e ∧ ∀ u : Int, 0 ≤ u → u < e → bL σ u → R u ≠ R e) ∧ nsR σ R 0 D e ≠ nsR σ R 1 E e) [(4, (e : Int) % 30, nsR σ R 0 D e, nsR σ R 1 E e)] [] := rfl
theorem clP_len (σ : ga_S) (R : Int → Int) (D E : Nat) : ∀ k : Nat, (clP σ R D E k).length ≤ k
  | 0 => Nat.le_refl _
  | k + 1 => by
    have ih := clP_len σ R D E k
    rw [clP_s, List.length_append]
    rcases Classical.em ((bL σ k ∧ ∀ u : Int, 0 ≤ u → u < k → bL σ u → R u ≠ R k) ∧ nsR σ R 0 D k ≠ nsR σ R 1 E k) with q | q
    · rw [tif1 q]; show _ + 1 ≤ _; omega
    · rw [tif0 q]; show _ + 0 ≤ _; omega
/-- classes told by their least ones: first in its class, and the class told by it -/
theorem led_iff {σ : ga_S} {C R : Int → Int} (hn : nEq 60 (bL σ) C R) (hl : ∀ x : Int, 0 ≤ x → x < 60 → bL σ x → C x ≤ x ∧ bL σ (C x) ∧ C (C x) = C x) (h0 : okD σ C) {e : Int} (e1 : 0 ≤ e) (e2 : e < 60) (le : bL σ e) : C e = e ↔ ∀ u : Int, 0 ≤ u → u < e → bL σ u → R u ≠ R e := by
  constructor
  · intro h u u1 u2 lu w
    have := (hn u e u1 (by omega) e1 e2 lu le).mpr w
    have := (hl u u1 (by omega) lu).1
    omega
  · intro h
    have q := hl e e1 e2 le
    have o := h0 e e1 e2 le
    rcases Int.lt_or_le (C e) e with w | w
    · exact absurd ((hn (C e) e o.1 o.2 e1 e2 q.2.1 le).mp q.2.2) (h (C e) o.1 w q.2.1)
    · omega
theorem nsR_C {σ : ga_S} {C R : Int → Int} {s : Int} {D : Nat} (hs : s = 0 ∨ s = 1) (hD : σ.1 70 s = D) (hD2 : D ≤ 30) (hn : nEq 60 (bL σ) C R) {e : Int} (e1 : 0 ≤ e) (e2 : e < 60) (le : bL σ e) (h : C e = e) : sz (fun d => tv (σ.1 68 (30 * s + d) = 0 ∧ C (30 * s + d) = e)) D = nsR σ R s D e := by
  unfold nsR
  apply sz_congr
  intro d hd
  apply tv_congr
  refine and_congr_right (fun g => ?_)
  have l : bL σ (30 * s + d) := ⟨by rw [show (30 * s + (d : Int)) / 30 = s by omega, hD]; omega, g⟩
  rw [← hn (30 * s + d) e (by omega) (by omega) e1 e2 l le, h]
theorem W_explain_C (σ τ : ga_S) (N D M E : Nat) (R : Int → Int) (l3 : List d4) (PP : ga_Po) (hw : wfR σ N D M E) (hn : nEq 60 (bL σ) (σ.1 73) R) (hl : ∀ x : Int, 0 ≤ x → x < 60 → bL σ x → σ.1 73 x ≤ x ∧ bL σ (σ.1 73 x) ∧ σ.1 73 (σ.1 73 x) = σ.1 73 x) (h0 : okD σ (σ.1 73)) (hr : rwP σ τ l3) (KK : ∀ υ, rwP σ υ (dfL l3 (clP σ R D E 60)) → PP none (HP υ)) (z : Option ga_V) : ga_W 3 0 0 0 0 mX11_explain PP ga_nox 80 [some (Vr 63), z] [] (HP τ) := by
  obtain ⟨_, hD, hD2, _⟩ := hw.1
  obtain ⟨_, hE, hE2, _⟩ := hw.2.1
  have r17 := rwP_n hr
  refine ga_aload_n dX11_explain_80 rfl ?_
  refine hg_getI 17 grX11_218 dX11_explain_81 rfl rfl rfl ?_
  refine ga_if_le (tgt := 88) dX11_explain_84 rfl (fun c_84 => ?_) (fun c_84 => ?_)
  rotate_left
  · have q : l3 ≠ [] := fun w => c_84 (by rw [r17, w]; exact Int.le_refl _)
    refine ga_ret (v := none) ?_ rfl (by decide) (by decide) ⟨dX11_explain_87, rfl⟩
    refine KK τ ?_
    unfold dfL
    rw [tif0 q]
    exact hr
  have q : l3 = [] := List.eq_nil_of_length_eq_zero (by omega)
  subst q
  refine ga_iconst dX11_explain_88 ⟨by decide, by decide⟩ ?_
  refine ga_istore_n (lv2 := [_, _]) dX11_explain_89 (by decide) rfl rfl ?_
  refine (ga_loop 60 (fun e => ∀ τ, rwP σ τ (clP σ R D E e) → ga_W 3 0 0 0 0 mX11_explain PP ga_nox 90 [some (Vr 63), some (Vi (e : Int))] [] (HP τ)) ?_ ?_ 0 (Nat.zero_le _) τ hr : _)
  · intro τ hr
    have r17 := rwP_n hr
    refine ga_iload_n dX11_explain_90 rfl ?_
    refine ga_bipush dX11_explain_91 ⟨by decide, by decide⟩ (by decide) ?_
    refine ga_icmp_ge (tgt := 156) dX11_explain_93 rfl (fun c_93 => ?_) (fun c_93 => ?_)
    · refine ga_aload_n dX11_explain_156 rfl ?_
      refine hg_getI 17 grX11_218 dX11_explain_157 rfl rfl rfl ?_
      refine ga_if_ne (tgt := 171) dX11_explain_160 rfl (fun c_160 => ?_) (fun c_160 => ?_)
      · have q : clP σ R D E 60 ≠ [] := fun w => c_160 (by rw [r17, w]; rfl)
        refine ga_ret (v := none) ?_ rfl (by decide) (by decide) ⟨dX11_explain_171, rfl⟩
        refine KK τ ?_
        unfold dfL
        rw [tif1 rfl, tif0 q]
        exact hr
      · have q : clP σ R D E 60 = [] := List.eq_nil_of_length_eq_zero (by omega)
        refine ga_aload_n dX11_explain_163 rfl ?_
        refine ga_iconst dX11_explain_164 ⟨by decide, by decide⟩ ?_
        refine ga_iconst dX11_explain_165 ⟨by decide, by decide⟩ ?_
        refine ga_iconst dX11_explain_166 ⟨by decide, by decide⟩ ?_
        refine ga_iconst dX11_explain_167 ⟨by decide, by decide⟩ ?_
        refine hc_Vv (T_X11_differ 5 0 0 0 τ (clP σ R D E 60).length r17 (by omega) (by rw [q]; decide)) fX11_differ rfl kX11_differ lkX11_221 dX11_explain_168 rfl rfl rfl rfl rfl rfl rfl rfl ?_
        refine ga_ret (v := none) ?_ rfl (by decide) (by decide) ⟨dX11_explain_171, rfl⟩
        refine KK _ ?_
        unfold dfL
        rw [tif1 rfl, tif1 q]
        have := rwP_add (a := 5) (b := 0) (c := 0) (d := 0) hr r17
        rw [q, List.nil_append] at this
        rw [q]
        exact this
    · omega
  · intro e he k τ hr
    have r17 := rwP_n hr
    have hc : core τ = core σ := core_exc hr.1 (by decide)
    have e73 : τ.1 73 = σ.1 73 := hr.1.1 73 (by decide)
    have e70 : τ.1 70 = σ.1 70 := hr.1.1 70 (by decide)
    have e68 : τ.1 68 = σ.1 68 := hr.1.1 68 (by decide)
    have ln9 := clP_len σ R D E e
    have GO : ¬ ((bL σ e ∧ ∀ u : Int, 0 ≤ u → u < e → bL σ u → R u ≠ R e) ∧ nsR σ R 0 D e ≠ nsR σ R 1 E e) → ga_W 3 0 0 0 0 mX11_explain PP ga_nox 150 [some (Vr 63), some (Vi (e : Int))] [] (HP τ) := by
      intro hno
      rw [clP_s, tif0 hno, List.append_nil] at k
      refine ga_iinc (z := ((e + 1 : Nat) : Int)) (lv2 := [_, _]) dX11_explain_150 (by decide) rfl rfl (by omega) (⟨by omega, by omega⟩) rfl ?_
      refine ga_goto (tgt := 90) dX11_explain_153 rfl ?_
      exact k τ hr
    refine ga_iload_n dX11_explain_90 rfl ?_
    refine ga_bipush dX11_explain_91 ⟨by decide, by decide⟩ (by decide) ?_
    refine ga_icmp_ge (tgt := 156) dX11_explain_93 rfl (fun c_93 => ?_) (fun c_93 => ?_)
    · omega
    · refine ga_aload_n dX11_explain_96 rfl ?_
      refine ga_iload_n dX11_explain_97 rfl ?_
      refine hc_V (T_X11_isLive e τ (by omega) (by omega)) fX11_isLive rfl kX11_isLive lkX11_143 dX11_explain_98 rfl rfl rfl rfl rfl rfl rfl rfl ?_
      refine ga_if_eq (tgt := 150) dX11_explain_101 rfl (fun c_101 => ?_) (fun c_101 => ?_)
      · rw [tv_eq0, cg_bL hc] at c_101
        exact GO (fun w => c_101 w.1.1)
      · rw [tv_ne0, cg_bL hc] at c_101
        have led := led_iff hn hl h0 (e := e) (by omega) (by omega) c_101
        refine ga_aload_n dX11_explain_104 rfl ?_
        refine hg_getR grX11_39 dX11_explain_105 rfl rfl ?_
        refine ga_iload_n dX11_explain_108 rfl ?_
        refine hg_iald dX11_explain_109 rfl (by omega) (by omega) ?_
        refine ga_iload_n dX11_explain_110 rfl ?_
        refine ga_icmp_ne (tgt := 150) dX11_explain_111 rfl (fun c_111 => ?_) (fun c_111 => ?_)
        · rw [e73] at c_111
          exact GO (fun w => c_111 (led.mpr w.1.2))
        · rw [e73] at c_111
          have n0 := nsR_C (s := 0) (Or.inl rfl) hD hD2 hn (e := e) (by omega) (by omega) c_101 c_111
          have n1 := nsR_C (s := 1) (Or.inr rfl) hE hE2 hn (e := e) (by omega) (by omega) c_101 c_111
          have C0 := T_X11_ofClass 0 e τ D (Or.inl rfl) (by rw [e70]; exact hD) hD2
          have C1 := T_X11_ofClass 1 e τ E (Or.inr rfl) (by rw [e70]; exact hE) hE2
          rw [e68, e73, n0] at C0
          rw [e68, e73, n1] at C1
          refine ga_aload_n dX11_explain_114 rfl ?_
          refine ga_iconst dX11_explain_115 ⟨by decide, by decide⟩ ?_
          refine ga_iload_n dX11_explain_116 rfl ?_
          refine hc_V (C0) fX11_ofClass rfl kX11_ofClass lkX11_231 dX11_explain_117 rfl rfl rfl rfl rfl rfl rfl rfl ?_
          refine ga_aload_n dX11_explain_120 rfl ?_
          refine ga_iconst dX11_explain_121 ⟨by decide, by decide⟩ ?_
          refine ga_iload_n dX11_explain_122 rfl ?_
          refine hc_V (C1) fX11_ofClass rfl kX11_ofClass lkX11_231 dX11_explain_123 rfl rfl rfl rfl rfl rfl rfl rfl ?_
          refine ga_icmp_eq (tgt := 150) dX11_explain_126 rfl (fun c_126 => ?_) (fun c_126 => ?_)
          · exact GO (fun w => w.2 c_126)
          · refine ga_aload_n dX11_explain_129 rfl ?_
            refine ga_iconst dX11_explain_130 ⟨by decide, by decide⟩ ?_
            refine ga_iload_n dX11_explain_131 rfl ?_
            refine ga_bipush dX11_explain_132 ⟨by decide, by decide⟩ (by decide) ?_
            refine ga_irem (z := ((e : Int) % 30)) dX11_explain_134 (by omega) (by decide) (by omega) ?_
            refine ga_aload_n dX11_explain_135 rfl ?_
            refine ga_iconst dX11_explain_136 ⟨by decide, by decide⟩ ?_
            refine ga_iload_n dX11_explain_137 rfl ?_
            refine hc_V (C0) fX11_ofClass rfl kX11_ofClass lkX11_231 dX11_explain_138 rfl rfl rfl rfl rfl rfl rfl rfl ?_
            refine ga_aload_n dX11_explain_141 rfl ?_
            refine ga_iconst dX11_explain_142 ⟨by decide, by decide⟩ ?_
            refine ga_iload_n dX11_explain_143 rfl ?_
            refine hc_V (C1) fX11_ofClass rfl kX11_ofClass lkX11_231 dX11_explain_144 rfl rfl rfl rfl rfl rfl rfl rfl ?_
            refine hc_Vv (T_X11_differ 4 _ _ _ τ (clP σ R D E e).length r17 (by omega) (by omega)) fX11_differ rfl kX11_differ lkX11_221 dX11_explain_147 rfl rfl rfl rfl rfl rfl rfl rfl ?_
            refine ga_iinc (z := ((e + 1 : Nat) : Int)) (lv2 := [_, _]) dX11_explain_150 (by decide) rfl rfl (by omega) (⟨by omega, by omega⟩) rfl ?_
            refine ga_goto (tgt := 90) dX11_explain_153 rfl ?_
            refine k _ ?_
            rw [clP_s, tif1 ⟨⟨c_101, led.mp c_111⟩, c_126⟩]
            exact rwP_add hr r17
theorem T_X11_explain (σ : ga_S) (N D M E : Nat) (R : Int → Int) (ll : List d4) (hw : wfR σ N D M E) (hn : nEq 60 (bL σ) (σ.1 73) R) (hl : ∀ x : Int, 0 ≤ x → x < 60 → bL σ x → σ.1 73 x ≤ x ∧ bL σ (σ.1 73 x) ∧ σ.1 73 (σ.1 73 x) = σ.1 73 x) (h0 : okD σ (σ.1 73)) (h17 : σ.1 63 17 = 0) (hll : ll.length ≤ 100) (hm : NmR σ N M ll (-1)) : ga_Mt 3 0 0 mX11_explain [Vr 63] (HP σ) (fun v h => ∃ υ, rwP σ υ (dfL ((kdL (ofk σ 0 D) (ofk σ 1 E) 8 ++ tif (usC σ 0 N = usC σ 1 M) [] [(2, 0, usC σ 0 N, usC σ 1 M)]) ++ ll) (clP σ R D E 60)) ∧ v = none ∧ h = HP υ) ga_nox := by
  obtain ⟨_, hD, hD2, hNN, hN2, _, _⟩ := hw.1
  obtain ⟨_, hE, hE2, hM, hM2, _, _⟩ := hw.2.1
  generalize hPP : (fun v h => ∃ υ, rwP σ υ (dfL ((kdL (ofk σ 0 D) (ofk σ 1 E) 8 ++ tif (usC σ 0 N = usC σ 1 M) [] [(2, 0, usC σ 0 N, usC σ 1 M)]) ++ ll) (clP σ R D E 60)) ∧ v = none ∧ h = HP υ) = PP
  have KK : ∀ υ, rwP σ υ (dfL ((kdL (ofk σ 0 D) (ofk σ 1 E) 8 ++ tif (usC σ 0 N = usC σ 1 M) [] [(2, 0, usC σ 0 N, usC σ 1 M)]) ++ ll) (clP σ R D E 60)) → PP none (HP υ) := fun υ h => by rw [← hPP]; exact ⟨υ, h, rfl, rfl⟩
  refine ga_meth [some (Vr 63), none] rfl rfl (by decide +kernel) (Nat.le_of_ble_eq_true rfl) rfl ?_
  refine ga_iconst dX11_explain_0 ⟨by decide, by decide⟩ ?_
  refine ga_istore_n (lv2 := [_, _]) dX11_explain_1 (by decide) rfl rfl ?_
  refine (ga_loop 8 (fun k => ∀ τ, rwP σ τ (kdL (ofk σ 0 D) (ofk σ 1 E) k) → ga_W 3 0 0 0 0 mX11_explain PP ga_nox 2 [some (Vr 63), some (Vi (k : Int))] [] (HP τ)) ?_ ?_ 0 (Nat.zero_le _) σ ⟨exc_r, by rw [h17]; exact dlh_0, fun _ _ => rfl⟩ : _)
  · intro τ hr
    have r17 := rwP_n hr
    have hc : core τ = core σ := core_exc hr.1 (by decide)
    have e70 : τ.1 70 = σ.1 70 := hr.1.1 70 (by decide)
    have e65 : τ.1 65 = σ.1 65 := hr.1.1 65 (by decide)
    have kl := kdL_len (ofk σ 0 D) (ofk σ 1 E) 8
    have U0 : ga_Mt 2 0 0 mX11_used [Vr 63, Vi 0] (HP τ) (gis (some (Vi (usC τ 0 N))) τ) ga_nox := T_X11_used 0 τ D N (Or.inl rfl) (by rw [e70]; exact hD) hD2 (by rw [e65]; exact hNN) hN2
    have U1 : ga_Mt 2 0 0 mX11_used [Vr 63, Vi 1] (HP τ) (gis (some (Vi (usC τ 1 M))) τ) ga_nox := T_X11_used 1 τ E M (Or.inr rfl) (by rw [e70]; exact hE) hE2 (by rw [e65]; exact hM) hM2
    rw [cg_usC hc] at U0 U1
    have N76 : ∀ τ, rwP σ τ (kdL (ofk σ 0 D) (ofk σ 1 E) 8 ++ tif (usC σ 0 N = usC σ 1 M) [] [(2, 0, usC σ 0 N, usC σ 1 M)]) → ga_W 3 0 0 0 0 mX11_explain PP ga_nox 76 [some (Vr 63), some (Vi 8)] [] (HP τ) := by
      intro τ hr
      have l3 : ((kdL (ofk σ 0 D) (ofk σ 1 E) 8 ++ tif (usC σ 0 N = usC σ 1 M) [] [(2, 0, usC σ 0 N, usC σ 1 M)])).length ≤ 9 := by
        rw [List.length_append]
        rcases Classical.em (usC σ 0 N = usC σ 1 M) with q | q
        · rw [tif1 q]; show _ + 0 ≤ _; omega
        · rw [tif0 q]; show _ + 1 ≤ _; omega
      refine ga_aload_n dX11_explain_76 rfl ?_
      refine hc_VP (T_X11_differNames σ τ N M (kdL (ofk σ 0 D) (ofk σ 1 E) 8 ++ tif (usC σ 0 N = usC σ 1 M) [] [(2, 0, usC σ 0 N, usC σ 1 M)]) ll hNN hN2 hM hM2 (by omega) hr hm) fX11_differNames rfl kX11_differNames lkX11_228 dX11_explain_77 rfl rfl rfl rfl rfl rfl rfl rfl ?_
      rintro v h2 ⟨υ, w1, w2, w3⟩
      rw [w2, w3]
      exact W_explain_C σ υ N D M E R _ PP hw hn hl h0 w1 KK _
    refine ga_iload_n dX11_explain_2 rfl ?_
    refine ga_bipush dX11_explain_3 ⟨by decide, by decide⟩ (by decide) ?_
    refine ga_icmp_ge (tgt := 47) dX11_explain_5 rfl (fun c_5 => ?_) (fun c_5 => ?_)
    · refine ga_aload_n dX11_explain_47 rfl ?_
      refine ga_iconst dX11_explain_48 ⟨by decide, by decide⟩ ?_
      refine hc_V (U0) fX11_used rfl kX11_used lkX11_197 dX11_explain_49 rfl rfl rfl rfl rfl rfl rfl rfl ?_
      refine ga_aload_n dX11_explain_52 rfl ?_
      refine ga_iconst dX11_explain_53 ⟨by decide, by decide⟩ ?_
      refine hc_V (U1) fX11_used rfl kX11_used lkX11_197 dX11_explain_54 rfl rfl rfl rfl rfl rfl rfl rfl ?_
      refine ga_icmp_eq (tgt := 76) dX11_explain_57 rfl (fun c_57 => ?_) (fun c_57 => ?_)
      · refine N76 τ ?_
        rw [tif1 c_57, List.append_nil]
        exact hr
      · refine ga_aload_n dX11_explain_60 rfl ?_
        refine ga_iconst dX11_explain_61 ⟨by decide, by decide⟩ ?_
        refine ga_iconst dX11_explain_62 ⟨by decide, by decide⟩ ?_
        refine ga_aload_n dX11_explain_63 rfl ?_
        refine ga_iconst dX11_explain_64 ⟨by decide, by decide⟩ ?_
        refine hc_V (U0) fX11_used rfl kX11_used lkX11_197 dX11_explain_65 rfl rfl rfl rfl rfl rfl rfl rfl ?_
        refine ga_aload_n dX11_explain_68 rfl ?_
        refine ga_iconst dX11_explain_69 ⟨by decide, by decide⟩ ?_
        refine hc_V (U1) fX11_used rfl kX11_used lkX11_197 dX11_explain_70 rfl rfl rfl rfl rfl rfl rfl rfl ?_
        refine hc_Vv (T_X11_differ 2 0 _ _ τ (kdL (ofk σ 0 D) (ofk σ 1 E) 8).length r17 (by omega) (by omega)) fX11_differ rfl kX11_differ lkX11_221 dX11_explain_73 rfl rfl rfl rfl rfl rfl rfl rfl ?_
        refine N76 _ ?_
        rw [tif0 c_57]
        exact rwP_add hr r17
    · omega
  · intro i hi k τ hr
    have r17 := rwP_n hr
    have e70 : τ.1 70 = σ.1 70 := hr.1.1 70 (by decide)
    have hc : core τ = core σ := core_exc hr.1 (by decide)
    have kl := kdL_len (ofk σ 0 D) (ofk σ 1 E) i
    have C0 : ga_Mt 0 0 0 mX11_ofKind [Vr 63, Vi 0, Vi (i : Int)] (HP τ) (gis (some (Vi (ofk τ 0 D i))) τ) ga_nox := T_X11_ofKind 0 i τ D (Or.inl rfl) (by rw [e70]; exact hD) hD2
    have C1 : ga_Mt 0 0 0 mX11_ofKind [Vr 63, Vi 1, Vi (i : Int)] (HP τ) (gis (some (Vi (ofk τ 1 E i))) τ) ga_nox := T_X11_ofKind 1 i τ E (Or.inr rfl) (by rw [e70]; exact hE) hE2
    rw [show ofk τ = ofk σ from cg ofk (fun _ => rfl) hc] at C0 C1
    rw [kdL_s] at k
    refine ga_iload_n dX11_explain_2 rfl ?_
    refine ga_bipush dX11_explain_3 ⟨by decide, by decide⟩ (by decide) ?_
    refine ga_icmp_ge (tgt := 47) dX11_explain_5 rfl (fun c_5 => ?_) (fun c_5 => ?_)
    · omega
    · refine ga_aload_n dX11_explain_8 rfl ?_
      refine ga_iconst dX11_explain_9 ⟨by decide, by decide⟩ ?_
      refine ga_iload_n dX11_explain_10 rfl ?_
      refine hc_V (C0) fX11_ofKind rfl kX11_ofKind lkX11_225 dX11_explain_11 rfl rfl rfl rfl rfl rfl rfl rfl ?_
      refine ga_aload_n dX11_explain_14 rfl ?_
      refine ga_iconst dX11_explain_15 ⟨by decide, by decide⟩ ?_
      refine ga_iload_n dX11_explain_16 rfl ?_
      refine hc_V (C1) fX11_ofKind rfl kX11_ofKind lkX11_225 dX11_explain_17 rfl rfl rfl rfl rfl rfl rfl rfl ?_
      refine ga_icmp_eq (tgt := 41) dX11_explain_20 rfl (fun c_20 => ?_) (fun c_20 => ?_)
      · rw [tif1 c_20, List.append_nil] at k
        refine ga_iinc (z := ((i + 1 : Nat) : Int)) (lv2 := [_, _]) dX11_explain_41 (by decide) rfl rfl (by omega) (⟨by omega, by omega⟩) rfl ?_
        refine ga_goto (tgt := 2) dX11_explain_44 rfl ?_
        exact k τ hr
      · rw [tif0 c_20] at k
        refine ga_aload_n dX11_explain_23 rfl ?_
        refine ga_iconst dX11_explain_24 ⟨by decide, by decide⟩ ?_
        refine ga_iload_n dX11_explain_25 rfl ?_
        refine ga_aload_n dX11_explain_26 rfl ?_
        refine ga_iconst dX11_explain_27 ⟨by decide, by decide⟩ ?_
        refine ga_iload_n dX11_explain_28 rfl ?_
        refine hc_V (C0) fX11_ofKind rfl kX11_ofKind lkX11_225 dX11_explain_29 rfl rfl rfl rfl rfl rfl rfl rfl ?_
        refine ga_aload_n dX11_explain_32 rfl ?_
        refine ga_iconst dX11_explain_33 ⟨by decide, by decide⟩ ?_
        refine ga_iload_n dX11_explain_34 rfl ?_
        refine hc_V (C1) fX11_ofKind rfl kX11_ofKind lkX11_225 dX11_explain_35 rfl rfl rfl rfl rfl rfl rfl rfl ?_
        refine hc_Vv (T_X11_differ 1 i _ _ τ (kdL (ofk σ 0 D) (ofk σ 1 E) i).length r17 (by omega) (by omega)) fX11_differ rfl kX11_differ lkX11_221 dX11_explain_38 rfl rfl rfl rfl rfl rfl rfl rfl ?_
        refine ga_iinc (z := ((i + 1 : Nat) : Int)) (lv2 := [_, _]) dX11_explain_41 (by decide) rfl rfl (by omega) (⟨by omega, by omega⟩) rfl ?_
        refine ga_goto (tgt := 2) dX11_explain_44 rfl ?_
        exact k _ (rwP_add hr r17)
