-- Search: changeSorts, undo
noncomputable def likeF (k1 : Int → Int) (c : Nat) (i : Int) : Int := lstF (fun j => k1 j = k1 i ∧ bitI 0 j = 0) c
theorem likeF_is {k1 : Int → Int} {c : Nat} {i : Int} (hc : c ≤ 4) (h1 : 0 ≤ i) (h2 : i < c) : 0 ≤ likeF k1 c i ∧ likeF k1 c i < c ∧ k1 (likeF k1 c i) = k1 i := by
  unfold likeF
  rcases lstF_is (fun j => k1 j = k1 i ∧ bitI 0 j = 0) c with ⟨q1, q2⟩ | ⟨q1, q2, q3, q4⟩
  · exact absurd ⟨rfl, bit_0 h1 (by omega)⟩ (q2 i h1 h2)
  · exact ⟨q1, q2, q3.1⟩
theorem likeF_eq {k1 : Int → Int} {c : Nat} {i j : Int} (hc : c ≤ 4) (h1 : 0 ≤ i) (h2 : i < c) (g1 : 0 ≤ j) (g2 : j < c) : likeF k1 c i = likeF k1 c j ↔ k1 i = k1 j := by
  constructor
  · intro h
    rw [← (likeF_is (k1 := k1) hc h1 h2).2.2, ← (likeF_is (k1 := k1) hc g1 g2).2.2, h]
  · intro h
    unfold likeF
    rw [h]
/-- e of the c nets have their new sorts -/
def CSr (f new : Int → Int) (old s : Int → Int) (e : Nat) : Prop := (∀ x : Int, (∀ i : Int, 0 ≤ i → i < e → f i ≠ x) → s x = old x) ∧ ∀ i : Int, 0 ≤ i → i < e → s (f i) = new i
theorem CSr_s {f new old s : Int → Int} {e : Nat} (h : CSr f new old s e) (hd : ∀ i : Int, 0 ≤ i → i < e → f i ≠ f e) : CSr f new old (ga_up s (f e) (new e)) (e + 1) := by
  refine ⟨fun x hx => ?_, fun i a b => ?_⟩
  · rw [ga_up_ne _ _ (fun z => hx e (by omega) (by omega) z.symm)]
    exact h.1 x (fun i a b => hx i a (by omega))
  · by_cases q : i = e
    · rw [q, ga_up_at]
    · rw [ga_up_ne _ _ (hd i a (by omega))]
      exact h.2 i a (by omega)
def RWr (p : Int) (new old s : Int → Int) (e : Nat) : Prop := (∀ j : Int, (j < p ∨ p + e ≤ j) → s j = old j) ∧ ∀ i : Int, 0 ≤ i → i < e → s (p + i) = new i
theorem RWr_s {p : Int} {new old s : Int → Int} {e : Nat} (h : RWr p new old s e) : RWr p new old (ga_up s (p + e) (new e)) (e + 1) := by
  refine ⟨fun j hj => ?_, fun i a b => ?_⟩
  · rw [ga_up_ne _ _ (by omega)]; exact h.1 j (by omega)
  · by_cases q : i = e
    · rw [q, ga_up_at]
    · rw [ga_up_ne _ _ (by omega)]; exact h.2 i a (by omega)
theorem T_X8_changeSorts (pl : Int) (σ : ga_S) (c : Nat) (h1 : 0 ≤ pl) (h2 : pl < 30) (hc : σ.1 42 1 = c) (hc2 : c ≤ 4) (hn1 : ∀ i : Int, 0 ≤ i → i < c → 0 ≤ σ.1 44 i ∧ σ.1 44 i < 40) (hn2 : ∀ i : Int, 0 ≤ i → i < c → 0 ≤ σ.1 50 i ∧ σ.1 50 i < 4 ∧ 0 ≤ σ.1 48 (σ.1 50 i) ∧ σ.1 48 (σ.1 50 i) < 40) (d1 : ∀ i j : Int, 0 ≤ i → i < c → 0 ≤ j → j < c → σ.1 44 i = σ.1 44 j → i = j) (d2 : ∀ i j : Int, 0 ≤ i → i < c → 0 ≤ j → j < c → σ.1 48 (σ.1 50 i) = σ.1 48 (σ.1 50 j) → i = j) : ga_Mt 1 0 0 mX8_changeSorts [Vr 38, Vi pl] (HP σ) (fun v h => ∃ τ, exc [43, 47, 51, 52, 53, 54] σ τ ∧ τ.1 51 = ga_up (σ.1 51) pl c ∧ RWr (pl * 4) (σ.1 44) (σ.1 52) (τ.1 52) c ∧ RWr (pl * 4) (fun i => σ.1 48 (σ.1 50 i)) (σ.1 53) (τ.1 53) c ∧ RWr (pl * 4) (fun i => σ.1 43 (σ.1 44 i)) (σ.1 54) (τ.1 54) c ∧ CSr (σ.1 44) (fun i => 41 + pl * 4 + likeF (σ.1 45) c i) (σ.1 43) (τ.1 43) c ∧ CSr (fun i => σ.1 48 (σ.1 50 i)) (fun i => 41 + pl * 4 + likeF (σ.1 45) c i) (σ.1 47) (τ.1 47) c ∧ v = none ∧ h = HP τ) ga_nox := by
  refine ga_meth [some (Vr 38), some (Vi pl), none, none, none, none, none, none] rfl rfl (by decide +kernel) (Nat.le_of_ble_eq_true rfl) rfl ?_
  refine ga_aload_n dX8_changeSorts_0 rfl ?_
  refine hg_getR grX8_39 dX8_changeSorts_1 rfl rfl ?_
  refine ga_iload_n dX8_changeSorts_4 rfl ?_
  refine ga_aload_n dX8_changeSorts_5 rfl ?_
  refine hg_getR grX8_29 dX8_changeSorts_6 rfl rfl ?_
  refine hg_getI 1 grX8_166 dX8_changeSorts_9 rfl rfl rfl ?_
  rw [hc]
  refine hg_iast dX8_changeSorts_12 rfl (by omega) (by omega) ?_
  refine ga_iconst dX8_changeSorts_13 ⟨by decide, by decide⟩ ?_
  refine ga_istore_n (lv2 := [_, _, _, _, _, _, _, _]) dX8_changeSorts_14 (by decide) rfl rfl ?_
  refine (ga_loop c (fun e => ∀ τ y3 y4 y5 y6 y7, exc [43, 47, 51, 52, 53, 54] σ τ → τ.1 51 = ga_up (σ.1 51) pl c → RWr (pl * 4) (σ.1 44) (σ.1 52) (τ.1 52) e → RWr (pl * 4) (fun i => σ.1 48 (σ.1 50 i)) (σ.1 53) (τ.1 53) e → RWr (pl * 4) (fun i => σ.1 43 (σ.1 44 i)) (σ.1 54) (τ.1 54) e → CSr (σ.1 44) (fun i => 41 + pl * 4 + likeF (σ.1 45) c i) (σ.1 43) (τ.1 43) e → CSr (fun i => σ.1 48 (σ.1 50 i)) (fun i => 41 + pl * 4 + likeF (σ.1 45) c i) (σ.1 47) (τ.1 47) e → ga_W 1 0 0 0 0 mX8_changeSorts (fun v h => ∃ τ, exc [43, 47, 51, 52, 53, 54] σ τ ∧ τ.1 51 = ga_up (σ.1 51) pl c ∧ RWr (pl * 4) (σ.1 44) (σ.1 52) (τ.1 52) c ∧ RWr (pl * 4) (fun i => σ.1 48 (σ.1 50 i)) (σ.1 53) (τ.1 53) c ∧ RWr (pl * 4) (fun i => σ.1 43 (σ.1 44 i)) (σ.1 54) (τ.1 54) c ∧ CSr (σ.1 44) (fun i => 41 + pl * 4 + likeF (σ.1 45) c i) (σ.1 43) (τ.1 43) c ∧ CSr (fun i => σ.1 48 (σ.1 50 i)) (fun i => 41 + pl * 4 + likeF (σ.1 45) c i) (σ.1 47) (τ.1 47) c ∧ v = none ∧ h = HP τ) ga_nox 15 [some (Vr 38), some (Vi pl), some (Vi (e : Int)), y3, y4, y5, y6, y7] [] (HP τ)) ?_ ?_ 0 (Nat.zero_le _) (stI σ 51 (ga_up (σ.1 51) pl c)) none none none none none (exc_st exc_r (by decide)) rfl ⟨fun _ _ => rfl, fun i a b => by omega⟩ ⟨fun _ _ => rfl, fun i a b => by omega⟩ ⟨fun _ _ => rfl, fun i a b => by omega⟩ ⟨fun _ _ => rfl, fun i a b => by omega⟩ ⟨fun _ _ => rfl, fun i a b => by omega⟩ : _)
  · intro τ y3 y4 y5 y6 y7 hx q1 q2 q3 q4 q5 q6
    have e1 : τ.1 42 1 = c := by rw [hx.1 42 (by decide)]; exact hc
    refine ga_iload_n dX8_changeSorts_15 rfl ?_
    refine ga_aload_n dX8_changeSorts_16 rfl ?_
    refine hg_getR grX8_29 dX8_changeSorts_17 rfl rfl ?_
    refine hg_getI 1 grX8_166 dX8_changeSorts_20 rfl rfl rfl ?_
    refine ga_icmp_ge (tgt := 151) dX8_changeSorts_23 rfl (fun c_23 => ?_) (fun c_23 => ?_)
    · refine ga_ret (v := none) ?_ rfl (by decide) (by decide) ⟨dX8_changeSorts_151, rfl⟩
      exact ⟨τ, hx, q1, q2, q3, q4, q5, q6, rfl, rfl⟩
    · omega
  · intro e he k τ y3 y4 y5 y6 y7 hx q1 q2 q3 q4 q5 q6
    have e1 : τ.1 42 1 = c := by rw [hx.1 42 (by decide)]; exact hc
    have e44 := hx.1 44 (by decide)
    have e45 := hx.1 45 (by decide)
    have e48 := hx.1 48 (by decide)
    have e50 := hx.1 50 (by decide)
    have n1 := hn1 e (by omega) (by omega)
    have n2 := hn2 e (by omega) (by omega)
    have lk := likeF_is (k1 := σ.1 45) hc2 (i := e) (by omega) (by omega)
    have o43 : τ.1 43 (σ.1 44 e) = σ.1 43 (σ.1 44 e) := q5.1 _ (fun i a b z => by have := d1 i e a (by omega) (by omega) (by omega) z; omega)
    refine ga_iload_n dX8_changeSorts_15 rfl ?_
    refine ga_aload_n dX8_changeSorts_16 rfl ?_
    refine hg_getR grX8_29 dX8_changeSorts_17 rfl rfl ?_
    refine hg_getI 1 grX8_166 dX8_changeSorts_20 rfl rfl rfl ?_
    refine ga_icmp_ge (tgt := 151) dX8_changeSorts_23 rfl (fun c_23 => ?_) (fun c_23 => ?_)
    · omega
    · refine ga_iload_n dX8_changeSorts_26 rfl ?_
      refine ga_iconst dX8_changeSorts_27 ⟨by decide, by decide⟩ ?_
      refine ga_imul dX8_changeSorts_28 rfl (⟨by omega, by omega⟩) ?_
      refine ga_iload_n dX8_changeSorts_29 rfl ?_
      refine ga_iadd dX8_changeSorts_30 rfl (⟨by omega, by omega⟩) ?_
      refine ga_istore_n (lv2 := [_, _, _, _, _, _, _, _]) dX8_changeSorts_31 (by decide) rfl rfl ?_
      refine ga_aload_n dX8_changeSorts_32 rfl ?_
      refine hg_getR grX8_29 dX8_changeSorts_33 rfl rfl ?_
      refine hg_getR grX8_175 dX8_changeSorts_36 rfl rfl ?_
      refine ga_iload_n dX8_changeSorts_39 rfl ?_
      refine hg_iald dX8_changeSorts_40 rfl (by omega) (by omega) ?_
      rw [e44]
      refine ga_istore (lv2 := [_, _, _, _, _, _, _, _]) dX8_changeSorts_41 (by decide) rfl rfl ?_
      refine ga_aload_n dX8_changeSorts_43 rfl ?_
      refine hg_getR grX8_33 dX8_changeSorts_44 rfl rfl ?_
      refine hg_getR grX8_175 dX8_changeSorts_47 rfl rfl ?_
      refine ga_aload_n dX8_changeSorts_50 rfl ?_
      refine hg_getR grX8_36 dX8_changeSorts_51 rfl rfl ?_
      refine ga_iload_n dX8_changeSorts_54 rfl ?_
      refine hg_iald dX8_changeSorts_55 rfl (by omega) (by omega) ?_
      rw [e50]
      refine hg_iald dX8_changeSorts_56 rfl (by omega) (by omega) ?_
      rw [e48]
      refine ga_istore (lv2 := [_, _, _, _, _, _, _, _]) dX8_changeSorts_57 (by decide) rfl rfl ?_
      refine ga_aload_n dX8_changeSorts_59 rfl ?_
      refine hg_getR grX8_42 dX8_changeSorts_60 rfl rfl ?_
      refine ga_iload_n dX8_changeSorts_63 rfl ?_
      refine ga_iload dX8_changeSorts_64 rfl ?_
      refine hg_iast dX8_changeSorts_66 rfl (by omega) (by omega) ?_
      refine ga_aload_n dX8_changeSorts_67 rfl ?_
      refine hg_getR grX8_45 dX8_changeSorts_68 rfl rfl ?_
      refine ga_iload_n dX8_changeSorts_71 rfl ?_
      refine ga_iload dX8_changeSorts_72 rfl ?_
      refine hg_iast dX8_changeSorts_74 rfl (by omega) (by omega) ?_
      refine ga_aload_n dX8_changeSorts_75 rfl ?_
      refine hg_getR grX8_48 dX8_changeSorts_76 rfl rfl ?_
      refine ga_iload_n dX8_changeSorts_79 rfl ?_
      refine ga_aload_n dX8_changeSorts_80 rfl ?_
      refine hg_getR grX8_29 dX8_changeSorts_81 rfl rfl ?_
      refine hg_getR grX8_101 dX8_changeSorts_84 rfl rfl ?_
      refine ga_iload dX8_changeSorts_87 rfl ?_
      refine hg_iald dX8_changeSorts_89 rfl (by omega) (by omega) ?_
      have o43b : ∀ f g, (stI (stI τ 52 f) 53 g).1 43 (σ.1 44 e) = σ.1 43 (σ.1 44 e) := fun _ _ => o43
      rw [o43b]
      refine hg_iast dX8_changeSorts_90 rfl (by omega) (by omega) ?_
      refine ga_aload_n dX8_changeSorts_91 rfl ?_
      refine hg_getR grX8_29 dX8_changeSorts_92 rfl rfl ?_
      refine ga_aload_n dX8_changeSorts_95 rfl ?_
      refine hg_getR grX8_29 dX8_changeSorts_96 rfl rfl ?_
      refine hg_getR grX8_169 dX8_changeSorts_99 rfl rfl ?_
      refine ga_iload_n dX8_changeSorts_102 rfl ?_
      refine hg_iald dX8_changeSorts_103 rfl (by omega) (by omega) ?_
      have o45 : ∀ f g j, (stI (stI (stI τ 52 f) 53 g) 54 j).1 45 = σ.1 45 := fun _ _ _ => e45
      rw [o45]
      refine ga_iconst dX8_changeSorts_104 ⟨by decide, by decide⟩ ?_
      refine hc_V (T_X6_placeWith_42 _ 0 _ c (by decide) (by decide) e1 hc2) fX6_placeWith rfl kX6_placeWith lkX8_172 dX8_changeSorts_105 rfl rfl rfl rfl rfl rfl rfl rfl ?_
      have E : lstF (fun i => (stI (stI (stI τ 52 (ga_up (τ.1 52) (pl * 4 + e) (σ.1 44 e))) 53 (ga_up ((stI τ 52 (ga_up (τ.1 52) (pl * 4 + e) (σ.1 44 e))).1 53) (pl * 4 + e) (σ.1 48 (σ.1 50 e)))) 54 (ga_up ((stI (stI τ 52 (ga_up (τ.1 52) (pl * 4 + e) (σ.1 44 e))) 53 (ga_up ((stI τ 52 (ga_up (τ.1 52) (pl * 4 + e) (σ.1 44 e))).1 53) (pl * 4 + e) (σ.1 48 (σ.1 50 e)))).1 54) (pl * 4 + e) (σ.1 43 (σ.1 44 e)))).1 45 i = σ.1 45 e ∧ bitI 0 i = 0) c = likeF (σ.1 45) c e := by
        rw [o45]; rfl
      rw [E]
      refine ga_istore (lv2 := [_, _, _, _, _, _, _, _]) dX8_changeSorts_108 (by decide) rfl rfl ?_
      refine ga_bipush dX8_changeSorts_110 ⟨by decide, by decide⟩ (by decide) ?_
      refine ga_iload_n dX8_changeSorts_112 rfl ?_
      refine ga_iconst dX8_changeSorts_113 ⟨by decide, by decide⟩ ?_
      refine ga_imul dX8_changeSorts_114 rfl (⟨by omega, by omega⟩) ?_
      refine ga_iadd dX8_changeSorts_115 rfl (⟨by omega, by omega⟩) ?_
      refine ga_iload dX8_changeSorts_116 rfl ?_
      refine ga_iadd dX8_changeSorts_118 rfl (⟨by omega, by omega⟩) ?_
      refine ga_istore (lv2 := [_, _, _, _, _, _, _, _]) dX8_changeSorts_119 (by decide) rfl rfl ?_
      refine ga_aload_n dX8_changeSorts_121 rfl ?_
      refine hg_getR grX8_29 dX8_changeSorts_122 rfl rfl ?_
      refine hg_getR grX8_101 dX8_changeSorts_125 rfl rfl ?_
      refine ga_iload dX8_changeSorts_128 rfl ?_
      refine ga_iload dX8_changeSorts_130 rfl ?_
      refine hg_iast dX8_changeSorts_132 rfl (by omega) (by omega) ?_
      refine ga_aload_n dX8_changeSorts_133 rfl ?_
      refine hg_getR grX8_33 dX8_changeSorts_134 rfl rfl ?_
      refine hg_getR grX8_101 dX8_changeSorts_137 rfl rfl ?_
      refine ga_iload dX8_changeSorts_140 rfl ?_
      refine ga_iload dX8_changeSorts_142 rfl ?_
      refine hg_iast dX8_changeSorts_144 rfl (by omega) (by omega) ?_
      refine ga_iinc (z := ((e + 1 : Nat) : Int)) (lv2 := [_, _, _, _, _, _, _, _]) dX8_changeSorts_145 (by decide) rfl rfl (by omega) (⟨by omega, by omega⟩) rfl ?_
      refine ga_goto (tgt := 15) dX8_changeSorts_148 rfl ?_
      refine k _ _ _ _ _ _ (exc_st (exc_st (exc_st (exc_st (exc_st hx (by decide)) (by decide)) (by decide)) (by decide)) (by decide)) q1 (RWr_s q2) (RWr_s q3) (RWr_s q4) (CSr_s q5 (fun i a b z => ?_)) (CSr_s q6 (fun i a b z => ?_))
      · have := d1 i e a (by omega) (by omega) (by omega) z; omega
      · have := d2 i e a (by omega) (by omega) (by omega) z; omega
def rstF (nets bef : Int → Int) (b : Int) : Nat → (Int → Int) → Int → Int
  | 0, s => s
  | e + 1, s => ga_up (rstF nets bef b e s) (nets (b + e)) (bef (b + e))
theorem T_X8_undoN (pl : Int) (σ : ga_S) (h1 : pl < 0) : ga_Mt 1 0 0 mX8_undo [Vr 38, Vi pl] (HP σ) (gis none σ) ga_nox := by
  refine ga_meth [some (Vr 38), some (Vi pl), none, none] rfl rfl (by decide +kernel) (Nat.le_of_ble_eq_true rfl) rfl ?_
  refine ga_iload_n dX8_undo_0 rfl ?_
  refine ga_if_ge (tgt := 5) dX8_undo_1 rfl (fun c_1 => ?_) (fun c_1 => ?_)
  · omega
  · refine ga_ret (v := none) ?_ rfl (by decide) (by decide) ⟨dX8_undo_4, rfl⟩
    exact ⟨rfl, rfl⟩
theorem T_X8_undo (pl : Int) (σ : ga_S) (c : Nat) (h1 : 0 ≤ pl) (h2 : pl < 30) (hc : σ.1 51 pl = c) (hc2 : c ≤ 4) (ht : 0 ≤ σ.1 40 pl ∧ σ.1 40 pl < 30) (hr : ∀ i : Int, 0 ≤ i → i < c → 0 ≤ σ.1 52 (pl * 4 + i) ∧ σ.1 52 (pl * 4 + i) < 40 ∧ 0 ≤ σ.1 53 (pl * 4 + i) ∧ σ.1 53 (pl * 4 + i) < 40) : ga_Mt 1 0 0 mX8_undo [Vr 38, Vi pl] (HP σ) (fun v h => ∃ τ, exc [41, 43, 47] σ τ ∧ τ.1 41 = ga_up (σ.1 41) (σ.1 40 pl) 0 ∧ τ.1 43 = rstF (σ.1 52) (σ.1 54) (pl * 4) c (σ.1 43) ∧ τ.1 47 = rstF (σ.1 53) (σ.1 54) (pl * 4) c (σ.1 47) ∧ v = none ∧ h = HP τ) ga_nox := by
  refine ga_meth [some (Vr 38), some (Vi pl), none, none] rfl rfl (by decide +kernel) (Nat.le_of_ble_eq_true rfl) rfl ?_
  refine ga_iload_n dX8_undo_0 rfl ?_
  refine ga_if_ge (tgt := 5) dX8_undo_1 rfl (fun c_1 => ?_) (fun c_1 => ?_)
  · refine ga_aload_n dX8_undo_5 rfl ?_
    refine hg_getR grX8_22 dX8_undo_6 rfl rfl ?_
    refine ga_aload_n dX8_undo_9 rfl ?_
    refine hg_getR grX8_19 dX8_undo_10 rfl rfl ?_
    refine ga_iload_n dX8_undo_13 rfl ?_
    refine hg_iald dX8_undo_14 rfl (by omega) (by omega) ?_
    refine ga_iconst dX8_undo_15 ⟨by decide, by decide⟩ ?_
    refine hg_zast dX8_undo_16 rfl (by omega) (by omega) (by omega) ?_
    refine ga_iconst dX8_undo_17 ⟨by decide, by decide⟩ ?_
    refine ga_istore_n (lv2 := [_, _, _, _]) dX8_undo_18 (by decide) rfl rfl ?_
    refine (ga_loop c (fun e => ∀ τ z, exc [41, 43, 47] σ τ → τ.1 41 = ga_up (σ.1 41) (σ.1 40 pl) 0 → τ.1 43 = rstF (σ.1 52) (σ.1 54) (pl * 4) e (σ.1 43) → τ.1 47 = rstF (σ.1 53) (σ.1 54) (pl * 4) e (σ.1 47) → ga_W 1 0 0 0 0 mX8_undo (fun v h => ∃ τ, exc [41, 43, 47] σ τ ∧ τ.1 41 = ga_up (σ.1 41) (σ.1 40 pl) 0 ∧ τ.1 43 = rstF (σ.1 52) (σ.1 54) (pl * 4) c (σ.1 43) ∧ τ.1 47 = rstF (σ.1 53) (σ.1 54) (pl * 4) c (σ.1 47) ∧ v = none ∧ h = HP τ) ga_nox 19 [some (Vr 38), some (Vi pl), some (Vi (e : Int)), z] [] (HP τ)) ?_ ?_ 0 (Nat.zero_le _) (stI σ 41 (ga_up (σ.1 41) (σ.1 40 pl) 0)) none (exc_st exc_r (by decide)) rfl rfl rfl : _)
    · intro τ z hx q1 q2 q3
      have e1 : τ.1 51 pl = c := by rw [hx.1 51 (by decide)]; exact hc
      refine ga_iload_n dX8_undo_19 rfl ?_
      refine ga_aload_n dX8_undo_20 rfl ?_
      refine hg_getR grX8_39 dX8_undo_21 rfl rfl ?_
      refine ga_iload_n dX8_undo_24 rfl ?_
      refine hg_iald dX8_undo_25 rfl (by omega) (by omega) ?_
      refine ga_icmp_ge (tgt := 81) dX8_undo_26 rfl (fun c_26 => ?_) (fun c_26 => ?_)
      · refine ga_ret (v := none) ?_ rfl (by decide) (by decide) ⟨dX8_undo_81, rfl⟩
        exact ⟨τ, hx, q1, q2, q3, rfl, rfl⟩
      · omega
    · intro e he k τ z hx q1 q2 q3
      have e1 : τ.1 51 pl = c := by rw [hx.1 51 (by decide)]; exact hc
      have r := hr e (by omega) (by omega)
      have e52 := hx.1 52 (by decide)
      have e53 := hx.1 53 (by decide)
      have e54 := hx.1 54 (by decide)
      refine ga_iload_n dX8_undo_19 rfl ?_
      refine ga_aload_n dX8_undo_20 rfl ?_
      refine hg_getR grX8_39 dX8_undo_21 rfl rfl ?_
      refine ga_iload_n dX8_undo_24 rfl ?_
      refine hg_iald dX8_undo_25 rfl (by omega) (by omega) ?_
      refine ga_icmp_ge (tgt := 81) dX8_undo_26 rfl (fun c_26 => ?_) (fun c_26 => ?_)
      · omega
      · refine ga_iload_n dX8_undo_29 rfl ?_
        refine ga_iconst dX8_undo_30 ⟨by decide, by decide⟩ ?_
        refine ga_imul dX8_undo_31 rfl (⟨by omega, by omega⟩) ?_
        refine ga_iload_n dX8_undo_32 rfl ?_
        refine ga_iadd dX8_undo_33 rfl (⟨by omega, by omega⟩) ?_
        refine ga_istore_n (lv2 := [_, _, _, _]) dX8_undo_34 (by decide) rfl rfl ?_
        refine ga_aload_n dX8_undo_35 rfl ?_
        refine hg_getR grX8_29 dX8_undo_36 rfl rfl ?_
        refine hg_getR grX8_101 dX8_undo_39 rfl rfl ?_
        refine ga_aload_n dX8_undo_42 rfl ?_
        refine hg_getR grX8_42 dX8_undo_43 rfl rfl ?_
        refine ga_iload_n dX8_undo_46 rfl ?_
        refine hg_iald dX8_undo_47 rfl (by omega) (by omega) ?_
        rw [e52]
        refine ga_aload_n dX8_undo_48 rfl ?_
        refine hg_getR grX8_48 dX8_undo_49 rfl rfl ?_
        refine ga_iload_n dX8_undo_52 rfl ?_
        refine hg_iald dX8_undo_53 rfl (by omega) (by omega) ?_
        rw [e54]
        refine hg_iast dX8_undo_54 rfl (by omega) (by omega) ?_
        refine ga_aload_n dX8_undo_55 rfl ?_
        refine hg_getR grX8_33 dX8_undo_56 rfl rfl ?_
        refine hg_getR grX8_101 dX8_undo_59 rfl rfl ?_
        refine ga_aload_n dX8_undo_62 rfl ?_
        refine hg_getR grX8_45 dX8_undo_63 rfl rfl ?_
        refine ga_iload_n dX8_undo_66 rfl ?_
        refine hg_iald dX8_undo_67 rfl (by omega) (by omega) ?_
        refine ga_aload_n dX8_undo_68 rfl ?_
        have o53 : ∀ f, (stI τ 43 f).1 53 = σ.1 53 := fun _ => e53
        rw [o53]
        refine hg_getR grX8_48 dX8_undo_69 rfl rfl ?_
        refine ga_iload_n dX8_undo_72 rfl ?_
        refine hg_iald dX8_undo_73 rfl (by omega) (by omega) ?_
        have o54 : ∀ f, (stI τ 43 f).1 54 = σ.1 54 := fun _ => e54
        rw [o54]
        refine hg_iast dX8_undo_74 rfl (by omega) (by omega) ?_
        refine ga_iinc (z := ((e + 1 : Nat) : Int)) (lv2 := [_, _, _, _]) dX8_undo_75 (by decide) rfl rfl (by omega) (⟨by omega, by omega⟩) rfl ?_
        refine ga_goto (tgt := 19) dX8_undo_78 rfl ?_
        refine k _ _ (exc_st (exc_st hx (by decide)) (by decide)) q1 ?_ ?_
        · show ga_up (τ.1 43) _ _ = _
          rw [q2]; rfl
        · show ga_up (τ.1 47) _ _ = _
          rw [q3]; rfl
  · omega
