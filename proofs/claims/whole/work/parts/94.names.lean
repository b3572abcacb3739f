-- the reference: differNames, explain
/-- a port above a whose name the other side has not -/
def lonP (σ : ga_S) (a : Int) (k : Int) : Prop := k % 40 < σ.1 65 (k / 40) ∧ a < σ.1 64 k ∧ ¬ hN σ (1 - k / 40) (σ.1 65 (1 - k / 40)).toNat (σ.1 64 k)
noncomputable def bsF (σ : ga_S) (a : Int) : Nat → Int
  | 0 => -1
  | k + 1 => tif (lonP σ a k ∧ (bsF σ a k = -1 ∨ σ.1 64 k < bsF σ a k)) (σ.1 64 k) (bsF σ a k)
theorem bsF_s (σ : ga_S) (a : Int) (k : Nat) : bsF σ a (k + 1) = tif (lonP σ a k ∧ (bsF σ a k = -1 ∨ σ.1 64 k < bsF σ a k)) (σ.1 64 k) (bsF σ a k) := rfl
noncomputable def nmX (σ : ga_S) (N M : Nat) (b : Int) : d4 := (3, b, tv (hN σ 0 N b), tv (hN σ 1 M b))
/-- the rows of names above a -/
def NmR (σ : ga_S) (N M : Nat) : List d4 → Int → Prop
  | [], a => bsF σ a 80 = -1
  | x :: l, a => bsF σ a 80 ≠ -1 ∧ x = nmX σ N M (bsF σ a 80) ∧ NmR σ N M l (bsF σ a 80)
theorem cg_bsF {σ τ : ga_S} (h : core τ = core σ) (a : Int) : ∀ k : Nat, bsF τ a k = bsF σ a k
  | 0 => rfl
  | k + 1 => by rw [bsF_s, bsF_s, cg_bsF h a k, show lonP τ = lonP σ from cg lonP (fun _ => rfl) h, show τ.1 64 = σ.1 64 from cg (fun β => β.1 64) (fun _ => rfl) h]
theorem cg_nmX {σ τ : ga_S} (h : core τ = core σ) : nmX τ = nmX σ := cg nmX (fun _ => rfl) h
theorem cg_NmR {σ τ : ga_S} (h : core τ = core σ) {N M : Nat} : ∀ {l : List d4} {a : Int}, NmR τ N M l a ↔ NmR σ N M l a
  | [], a => by unfold NmR; rw [cg_bsF h]
  | x :: l, a => by unfold NmR; rw [cg_bsF h, cg_nmX h, cg_NmR h]
abbrev DR1 : List Nat := [63, 77]
/-- the rows stand: as many as counted -/
def rwP (σ τ : ga_S) (l : List d4) : Prop := exc DR1 σ τ ∧ dlh (τ.1 77) (τ.1 63 17) l ∧ ∀ j : Int, j ≠ 17 → τ.1 63 j = σ.1 63 j
theorem rwP_add {σ τ : ga_S} {l : List d4} {n a b c d : Int} (h : rwP σ τ l) (hn : τ.1 63 17 = n) : rwP σ (stI (stI τ 77 (addF (τ.1 77) n a b c d)) 63 (ga_up (τ.1 63) 17 (n + 1))) (l ++ [(a, b, c, d)]) := by
  obtain ⟨h1, h2, h3⟩ := h
  refine ⟨exc_st (exc_st h1 (by decide)) (by decide), ?_, fun j hj => ?_⟩
  · show dlh (addF (τ.1 77) n a b c d) (ga_up (τ.1 63) 17 (n + 1) 17) _
    rw [ga_up_at]
    rw [hn] at h2
    exact dlh_add h2
  · show ga_up (τ.1 63) 17 (n + 1) j = _
    rw [ga_up_ne _ _ hj]
    exact h3 j hj
theorem rwP_n {σ τ : ga_S} {l : List d4} (h : rwP σ τ l) : τ.1 63 17 = l.length := h.2.1.1
theorem W_differNames (σ : ga_S) (N M : Nat) (PP : ga_Po) (hNN : σ.1 65 0 = N) (hN2 : N ≤ 40) (hM : σ.1 65 1 = M) (hM2 : M ≤ 40) : ∀ (ll l : List d4) (τ : ga_S) (a : Int) (y3 y4 y5 : Option ga_V), l.length + ll.length < 190 → rwP σ τ l → NmR σ N M ll a → -1 ≤ a → (∀ υ, rwP σ υ (l ++ ll) → PP none (HP υ)) → ga_W 1 0 0 0 0 mX11_differNames PP ga_nox 4 [some (Vr 63), some (Vi a), some (Vi 1), y3, y4, y5] [] (HP τ) := by
  -- one look for the least
  have LOOK : ∀ (τ : ga_S) (a : Int) (y4 y5 : Option ga_V), exc DR1 σ τ → (∀ y4 y5, ga_W 1 0 0 0 0 mX11_differNames PP ga_nox 116 [some (Vr 63), some (Vi a), some (Vi 1), some (Vi (bsF σ a 80)), y4, y5] [] (HP τ)) → ga_W 1 0 0 0 0 mX11_differNames PP ga_nox 13 [some (Vr 63), some (Vi a), some (Vi 1), some (Vi (-1)), some (Vi ((0 : Nat) : Int)), y5] [] (HP τ) := by
    intro τ a y4 y5 hx KK
    have e65 : τ.1 65 = σ.1 65 := hx.1 65 (by decide)
    have e64 : τ.1 64 = σ.1 64 := hx.1 64 (by decide)
    have hc : core τ = core σ := core_exc hx (by decide)
    refine (ga_loop 80 (fun k => ∀ y5, ga_W 1 0 0 0 0 mX11_differNames PP ga_nox 13 [some (Vr 63), some (Vi a), some (Vi 1), some (Vi (bsF σ a k)), some (Vi (k : Int)), y5] [] (HP τ)) ?_ ?_ 0 (Nat.zero_le _) _ : _)
    · intro y5
      refine ga_iload dX11_differNames_13 rfl ?_
      refine ga_bipush dX11_differNames_15 ⟨by decide, by decide⟩ (by decide) ?_
      refine ga_icmp_ge (tgt := 116) dX11_differNames_17 rfl (fun c_17 => ?_) (fun c_17 => ?_)
      · exact KK _ _
      · omega
    · intro i hi k y5
      have hs : ∃ F : Nat, σ.1 65 (1 - (i : Int) / 40) = F ∧ F ≤ 40 := by
        rcases (show (i : Int) / 40 = 0 ∨ (i : Int) / 40 = 1 by omega) with q | q <;> rw [q]
        · exact ⟨M, hM, hM2⟩
        · exact ⟨N, hNN, hN2⟩
      obtain ⟨F, hF, hF2⟩ := hs
      rw [bsF_s] at k
      have T109 : ∀ (v : Int) (y5 : Option ga_V), v = tif (lonP σ a i ∧ (bsF σ a i = -1 ∨ σ.1 64 i < bsF σ a i)) (σ.1 64 i) (bsF σ a i) → ga_W 1 0 0 0 0 mX11_differNames PP ga_nox 109 [some (Vr 63), some (Vi a), some (Vi 1), some (Vi (bsF σ a i)), some (Vi (i : Int)), y5] [Vi v] (HP τ) := by
        intro v y5 hv
        refine ga_istore_n (lv2 := [_, _, _, _, _, _]) dX11_differNames_109 (by decide) rfl rfl ?_
        refine ga_iinc (z := ((i + 1 : Nat) : Int)) (lv2 := [_, _, _, _, _, _]) dX11_differNames_110 (by decide) rfl rfl (by omega) (⟨by omega, by omega⟩) rfl ?_
        refine ga_goto (tgt := 13) dX11_differNames_113 rfl ?_
        rw [hv]
        exact k _
      have T75 : ∀ (v : Int) (y5 : Option ga_V), v = tv (lonP σ a i) → ga_W 1 0 0 0 0 mX11_differNames PP ga_nox 75 [some (Vr 63), some (Vi a), some (Vi 1), some (Vi (bsF σ a i)), some (Vi (i : Int)), y5] [Vi v] (HP τ) := by
        intro v y5 hv
        refine ga_istore (lv2 := [_, _, _, _, _, _]) dX11_differNames_75 (by decide) rfl rfl ?_
        refine ga_iload dX11_differNames_77 rfl ?_
        refine ga_if_eq (tgt := 108) dX11_differNames_79 rfl (fun c_79 => ?_) (fun c_79 => ?_)
        · rw [hv, tv_eq0] at c_79
          refine ga_iload_n dX11_differNames_108 rfl ?_
          exact T109 _ _ (by rw [tif0 (fun w => c_79 w.1)])
        · rw [hv, tv_ne0] at c_79
          refine ga_iload_n dX11_differNames_82 rfl ?_
          refine ga_iconst dX11_differNames_83 ⟨by decide, by decide⟩ ?_
          refine ga_icmp_eq (tgt := 98) dX11_differNames_84 rfl (fun c_84 => ?_) (fun c_84 => ?_)
          · refine ga_aload_n dX11_differNames_98 rfl ?_
            refine hg_getR grX11_7 dX11_differNames_99 rfl rfl ?_
            refine ga_iload dX11_differNames_102 rfl ?_
            refine hg_iald dX11_differNames_104 rfl (by omega) (by omega) ?_
            refine ga_goto (tgt := 109) dX11_differNames_105 rfl ?_
            rw [e64]
            exact T109 _ _ (by rw [tif1 ⟨c_79, Or.inl c_84⟩])
          · refine ga_aload_n dX11_differNames_87 rfl ?_
            refine hg_getR grX11_7 dX11_differNames_88 rfl rfl ?_
            refine ga_iload dX11_differNames_91 rfl ?_
            refine hg_iald dX11_differNames_93 rfl (by omega) (by omega) ?_
            refine ga_iload_n dX11_differNames_94 rfl ?_
            refine ga_icmp_ge (tgt := 108) dX11_differNames_95 rfl (fun c_95 => ?_) (fun c_95 => ?_)
            · rw [e64] at c_95
              refine ga_iload_n dX11_differNames_108 rfl ?_
              exact T109 _ _ (by rw [tif0 (fun w => w.2.elim c_84 (fun z => by omega))])
            · rw [e64] at c_95
              refine ga_aload_n dX11_differNames_98 rfl ?_
              refine hg_getR grX11_7 dX11_differNames_99 rfl rfl ?_
              refine ga_iload dX11_differNames_102 rfl ?_
              refine hg_iald dX11_differNames_104 rfl (by omega) (by omega) ?_
              refine ga_goto (tgt := 109) dX11_differNames_105 rfl ?_
              rw [e64]
              exact T109 _ _ (by rw [tif1 ⟨c_79, Or.inr (by omega)⟩])
      refine ga_iload dX11_differNames_13 rfl ?_
      refine ga_bipush dX11_differNames_15 ⟨by decide, by decide⟩ (by decide) ?_
      refine ga_icmp_ge (tgt := 116) dX11_differNames_17 rfl (fun c_17 => ?_) (fun c_17 => ?_)
      · omega
      · refine ga_iload dX11_differNames_20 rfl ?_
        refine ga_bipush dX11_differNames_22 ⟨by decide, by decide⟩ (by decide) ?_
        refine ga_irem (z := ((i : Int) % 40)) dX11_differNames_24 (by omega) (by decide) (by omega) ?_
        refine ga_aload_n dX11_differNames_25 rfl ?_
        refine hg_getR grX11_13 dX11_differNames_26 rfl rfl ?_
        refine ga_iload dX11_differNames_29 rfl ?_
        refine ga_bipush dX11_differNames_31 ⟨by decide, by decide⟩ (by decide) ?_
        refine ga_idiv (z := ((i : Int) / 40)) dX11_differNames_33 (by omega) (by decide) (by omega) ?_
        refine hg_iald dX11_differNames_34 rfl (by omega) (by omega) ?_
        refine ga_icmp_ge (tgt := 74) dX11_differNames_35 rfl (fun c_35 => ?_) (fun c_35 => ?_)
        · rw [e65] at c_35
          refine ga_iconst dX11_differNames_74 ⟨by decide, by decide⟩ ?_
          exact T75 0 _ (tvz (fun w => by have := w.1; omega)).symm
        · rw [e65] at c_35
          refine ga_aload_n dX11_differNames_38 rfl ?_
          refine hg_getR grX11_7 dX11_differNames_39 rfl rfl ?_
          refine ga_iload dX11_differNames_42 rfl ?_
          refine hg_iald dX11_differNames_44 rfl (by omega) (by omega) ?_
          refine ga_iload_n dX11_differNames_45 rfl ?_
          refine ga_icmp_le (tgt := 74) dX11_differNames_46 rfl (fun c_46 => ?_) (fun c_46 => ?_)
          · rw [e64] at c_46
            refine ga_iconst dX11_differNames_74 ⟨by decide, by decide⟩ ?_
            exact T75 0 _ (tvz (fun w => by have := w.2.1; omega)).symm
          · rw [e64] at c_46
            refine ga_aload_n dX11_differNames_49 rfl ?_
            refine ga_iconst dX11_differNames_50 ⟨by decide, by decide⟩ ?_
            refine ga_iload dX11_differNames_51 rfl ?_
            refine ga_bipush dX11_differNames_53 ⟨by decide, by decide⟩ (by decide) ?_
            refine ga_idiv (z := ((i : Int) / 40)) dX11_differNames_55 (by omega) (by decide) (by omega) ?_
            refine ga_isub dX11_differNames_56 rfl (⟨by omega, by omega⟩) ?_
            refine ga_aload_n dX11_differNames_57 rfl ?_
            refine hg_getR grX11_7 dX11_differNames_58 rfl rfl ?_
            refine ga_iload dX11_differNames_61 rfl ?_
            refine hg_iald dX11_differNames_63 rfl (by omega) (by omega) ?_
            rw [e64]
            refine hc_V (T_X11_hasName (1 - (i : Int) / 40) (σ.1 64 i) τ F (by omega) (by rw [e65]; exact hF) hF2) fX11_hasName rfl kX11_hasName lkX11_191 dX11_differNames_64 rfl rfl rfl rfl rfl rfl rfl rfl ?_
            refine ga_if_ne (tgt := 74) dX11_differNames_67 rfl (fun c_67 => ?_) (fun c_67 => ?_)
            · rw [tv_ne0, show hN τ = hN σ from cg hN (fun _ => rfl) hc] at c_67
              refine ga_iconst dX11_differNames_74 ⟨by decide, by decide⟩ ?_
              exact T75 0 _ (tvz (fun w => w.2.2 (by rw [hF, Int.toNat_natCast]; exact c_67))).symm
            · rw [tv_eq0, show hN τ = hN σ from cg hN (fun _ => rfl) hc] at c_67
              refine ga_iconst dX11_differNames_70 ⟨by decide, by decide⟩ ?_
              refine ga_goto (tgt := 75) dX11_differNames_71 rfl ?_
              exact T75 1 _ (tv1 ⟨by omega, by omega, by rw [hF, Int.toNat_natCast]; exact c_67⟩).symm
  intro ll
  induction ll with
  | nil =>
    intro l τ a y3 y4 y5 hl h hm ha KK
    have hm' : bsF σ a 80 = -1 := hm
    refine ga_iload_n dX11_differNames_4 rfl ?_
    refine ga_if_eq (tgt := 170) dX11_differNames_5 rfl (fun c_5 => ?_) (fun c_5 => ?_)
    · exact absurd c_5 (by decide)
    · refine ga_iconst dX11_differNames_8 ⟨by decide, by decide⟩ ?_
      refine ga_istore_n (lv2 := [_, _, _, _, _, _]) dX11_differNames_9 (by decide) rfl rfl ?_
      refine ga_iconst dX11_differNames_10 ⟨by decide, by decide⟩ ?_
      refine ga_istore (lv2 := [_, _, _, _, _, _]) dX11_differNames_11 (by decide) rfl rfl ?_
      refine LOOK τ a none _ h.1 (fun y4 y5 => ?_)
      rw [hm']
      refine ga_iload_n dX11_differNames_116 rfl ?_
      refine ga_iconst dX11_differNames_117 ⟨by decide, by decide⟩ ?_
      refine ga_icmp_eq (tgt := 125) dX11_differNames_118 rfl (fun c_118 => ?_) (fun c_118 => ?_)
      · refine ga_iconst dX11_differNames_125 ⟨by decide, by decide⟩ ?_
        refine ga_istore_n (lv2 := [_, _, _, _, _, _]) dX11_differNames_126 (by decide) rfl rfl ?_
        refine ga_iload_n dX11_differNames_127 rfl ?_
        refine ga_istore_n (lv2 := [_, _, _, _, _, _]) dX11_differNames_128 (by decide) rfl rfl ?_
        refine ga_iload_n dX11_differNames_129 rfl ?_
        refine ga_if_eq (tgt := 167) dX11_differNames_130 rfl (fun c_130 => ?_) (fun c_130 => ?_)
        · refine ga_goto (tgt := 4) dX11_differNames_167 rfl ?_
          refine ga_iload_n dX11_differNames_4 rfl ?_
          refine ga_if_eq (tgt := 170) dX11_differNames_5 rfl (fun c_5 => ?_) (fun c_5 => ?_)
          · refine ga_ret (v := none) ?_ rfl (by decide) (by decide) ⟨dX11_differNames_170, rfl⟩
            exact KK τ (by rw [List.append_nil]; exact h)
          · exact absurd rfl c_5
        · exact absurd rfl c_130
      · exact absurd rfl c_118
  | cons x ll ih =>
    intro l τ a y3 y4 y5 hl h hm ha KK
    obtain ⟨m1, m2, m3⟩ := hm
    have hc : core τ = core σ := core_exc h.1 (by decide)
    have e65 : τ.1 65 = σ.1 65 := h.1.1 65 (by decide)
    have hn := rwP_n h
    rw [List.length_cons] at hl
    refine ga_iload_n dX11_differNames_4 rfl ?_
    refine ga_if_eq (tgt := 170) dX11_differNames_5 rfl (fun c_5 => ?_) (fun c_5 => ?_)
    · exact absurd c_5 (by decide)
    · refine ga_iconst dX11_differNames_8 ⟨by decide, by decide⟩ ?_
      refine ga_istore_n (lv2 := [_, _, _, _, _, _]) dX11_differNames_9 (by decide) rfl rfl ?_
      refine ga_iconst dX11_differNames_10 ⟨by decide, by decide⟩ ?_
      refine ga_istore (lv2 := [_, _, _, _, _, _]) dX11_differNames_11 (by decide) rfl rfl ?_
      refine LOOK τ a none _ h.1 (fun y4 y5 => ?_)
      have bge : -1 ≤ bsF σ a 80 := by
        have key : ∀ k : Nat, bsF σ a k = -1 ∨ a < bsF σ a k := by
          intro k
          induction k with
          | zero => exact Or.inl rfl
          | succ k ih =>
            rw [bsF_s]
            rcases Classical.em (lonP σ a k ∧ (bsF σ a k = -1 ∨ σ.1 64 k < bsF σ a k)) with q | q
            · rw [tif1 q]; exact Or.inr q.1.2.1
            · rw [tif0 q]; exact ih
        rcases key 80 with q | q <;> omega
      generalize hb : bsF σ a 80 = b at m1 m2 m3 bge
      have FIN : ∀ v w : Int, v = tv (hN σ 0 N b) → w = tv (hN σ 1 M b) → ga_W 1 0 0 0 0 mX11_differNames PP ga_nox 164 [some (Vr 63), some (Vi b), some (Vi 1), some (Vi b), y4, y5] [Vi w, Vi v, Vi b, Vi 3, Vr 63] (HP τ) := by
        intro v w hv hw
        refine hc_Vv (T_X11_differ 3 b v w τ l.length hn (by omega) (by omega)) fX11_differ rfl kX11_differ lkX11_221 dX11_differNames_164 rfl rfl rfl rfl rfl rfl rfl rfl ?_
        refine ga_goto (tgt := 4) dX11_differNames_167 rfl ?_
        refine ih _ _ _ _ _ _ (by rw [List.length_append]; show l.length + 1 + ll.length < 190; omega) (rwP_add h hn) m3 bge (fun υ hυ => KK υ ?_)
        rw [List.append_assoc, hv, hw] at hυ
        rw [m2]
        exact hυ
      have F150 : ∀ v : Int, v = tv (hN σ 0 N b) → ga_W 1 0 0 0 0 mX11_differNames PP ga_nox 150 [some (Vr 63), some (Vi b), some (Vi 1), some (Vi b), y4, y5] [Vi v, Vi b, Vi 3, Vr 63] (HP τ) := by
        intro v hv
        refine ga_aload_n dX11_differNames_150 rfl ?_
        refine ga_iconst dX11_differNames_151 ⟨by decide, by decide⟩ ?_
        refine ga_iload_n dX11_differNames_152 rfl ?_
        refine hc_V (T_X11_hasName 1 b τ M (Or.inr rfl) (by rw [e65]; exact hM) hM2) fX11_hasName rfl kX11_hasName lkX11_191 dX11_differNames_153 rfl rfl rfl rfl rfl rfl rfl rfl ?_
        refine ga_if_eq (tgt := 163) dX11_differNames_156 rfl (fun c_156 => ?_) (fun c_156 => ?_)
        · rw [tv_eq0, show hN τ = hN σ from cg hN (fun _ => rfl) hc] at c_156
          refine ga_iconst dX11_differNames_163 ⟨by decide, by decide⟩ ?_
          exact FIN v 0 hv (tvz c_156).symm
        · rw [tv_ne0, show hN τ = hN σ from cg hN (fun _ => rfl) hc] at c_156
          refine ga_iconst dX11_differNames_159 ⟨by decide, by decide⟩ ?_
          refine ga_goto (tgt := 164) dX11_differNames_160 rfl ?_
          exact FIN v 1 hv (tv1 c_156).symm
      refine ga_iload_n dX11_differNames_116 rfl ?_
      refine ga_iconst dX11_differNames_117 ⟨by decide, by decide⟩ ?_
      refine ga_icmp_eq (tgt := 125) dX11_differNames_118 rfl (fun c_118 => ?_) (fun c_118 => ?_)
      · exact absurd c_118 m1
      · refine ga_iconst dX11_differNames_121 ⟨by decide, by decide⟩ ?_
        refine ga_goto (tgt := 126) dX11_differNames_122 rfl ?_
        refine ga_istore_n (lv2 := [_, _, _, _, _, _]) dX11_differNames_126 (by decide) rfl rfl ?_
        refine ga_iload_n dX11_differNames_127 rfl ?_
        refine ga_istore_n (lv2 := [_, _, _, _, _, _]) dX11_differNames_128 (by decide) rfl rfl ?_
        refine ga_iload_n dX11_differNames_129 rfl ?_
        refine ga_if_eq (tgt := 167) dX11_differNames_130 rfl (fun c_130 => ?_) (fun c_130 => ?_)
        · exact absurd c_130 (by decide)
        · refine ga_aload_n dX11_differNames_133 rfl ?_
          refine ga_iconst dX11_differNames_134 ⟨by decide, by decide⟩ ?_
          refine ga_iload_n dX11_differNames_135 rfl ?_
          refine ga_aload_n dX11_differNames_136 rfl ?_
          refine ga_iconst dX11_differNames_137 ⟨by decide, by decide⟩ ?_
          refine ga_iload_n dX11_differNames_138 rfl ?_
          refine hc_V (T_X11_hasName 0 b τ N (Or.inl rfl) (by rw [e65]; exact hNN) hN2) fX11_hasName rfl kX11_hasName lkX11_191 dX11_differNames_139 rfl rfl rfl rfl rfl rfl rfl rfl ?_
          refine ga_if_eq (tgt := 149) dX11_differNames_142 rfl (fun c_142 => ?_) (fun c_142 => ?_)
          · rw [tv_eq0, show hN τ = hN σ from cg hN (fun _ => rfl) hc] at c_142
            refine ga_iconst dX11_differNames_149 ⟨by decide, by decide⟩ ?_
            exact F150 0 (tvz c_142).symm
          · rw [tv_ne0, show hN τ = hN σ from cg hN (fun _ => rfl) hc] at c_142
            refine ga_iconst dX11_differNames_145 ⟨by decide, by decide⟩ ?_
            refine ga_goto (tgt := 150) dX11_differNames_146 rfl ?_
            exact F150 1 (tv1 c_142).symm
theorem T_X11_differNames (σ τ : ga_S) (N M : Nat) (l ll : List d4) (hNN : σ.1 65 0 = N) (hN2 : N ≤ 40) (hM : σ.1 65 1 = M) (hM2 : M ≤ 40) (hl : l.length + ll.length < 190) (h : rwP σ τ l) (hm : NmR σ N M ll (-1)) : ga_Mt 1 0 0 mX11_differNames [Vr 63] (HP τ) (fun v h => ∃ υ, rwP σ υ (l ++ ll) ∧ v = none ∧ h = HP υ) ga_nox := by
  refine ga_meth [some (Vr 63), none, none, none, none, none] rfl rfl (by decide +kernel) (Nat.le_of_ble_eq_true rfl) rfl ?_
  refine ga_iconst dX11_differNames_0 ⟨by decide, by decide⟩ ?_
  refine ga_istore_n (lv2 := [_, _, _, _, _, _]) dX11_differNames_1 (by decide) rfl rfl ?_
  refine ga_iconst dX11_differNames_2 ⟨by decide, by decide⟩ ?_
  refine ga_istore_n (lv2 := [_, _, _, _, _, _]) dX11_differNames_3 (by decide) rfl rfl ?_
  exact W_differNames σ N M (fun v h => ∃ υ, rwP σ υ (l ++ ll) ∧ v = none ∧ h = HP υ) hNN hN2 hM hM2 ll l τ (-1) _ _ _ hl h hm (Int.le_refl _) (fun υ hυ => ⟨υ, hυ, rfl, rfl⟩)
