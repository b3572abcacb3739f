-- truth as a number; sums; loops
noncomputable def tv (p : Prop) : Int := @ite Int p (Classical.propDecidable p) 1 0
theorem tv1 {p : Prop} (h : p) : tv p = 1 := by unfold tv; rw [if_pos h]
theorem tvz {p : Prop} (h : ¬ p) : tv p = 0 := by unfold tv; rw [if_neg h]
theorem tv_eq0 {p : Prop} : tv p = 0 ↔ ¬ p := by
  constructor
  · intro h q; rw [tv1 q] at h; exact absurd h (by decide)
  · exact tvz
theorem tv_ne0 {p : Prop} : ¬ tv p = 0 ↔ p := by rw [tv_eq0]; exact Classical.not_not
theorem tv01 {p : Prop} : tv p = 0 ∨ tv p = 1 := by
  rcases Classical.em p with h | h
  · exact Or.inr (tv1 h)
  · exact Or.inl (tvz h)
theorem tv_congr {p q : Prop} (h : p ↔ q) : tv p = tv q := by
  rcases Classical.em q with z | z
  · rw [tv1 z, tv1 (h.mpr z)]
  · rw [tvz z, tvz (fun y => z (h.mp y))]
theorem tv_le {p : Prop} : 0 ≤ tv p ∧ tv p ≤ 1 := by rcases tv01 (p := p) with h | h <;> rw [h] <;> decide
theorem tvt {p : Prop} (h : p) : (some (Vi 1) : Option ga_V) = some (Vi (tv p)) := by rw [tv1 h]
theorem tvf {p : Prop} (h : ¬ p) : (some (Vi 0) : Option ga_V) = some (Vi (tv p)) := by rw [tvz h]
theorem tv_nb {p : Prop} : narrow .boolean (.int (Int32.ofInt (tv p))) = .int (Int32.ofInt (tv p)) := by rcases tv01 (p := p) with z | z <;> rw [z] <;> rfl
def sz (f : Int → Int) : Nat → Int
  | 0 => 0
  | n + 1 => sz f n + f n
theorem sz_s (f : Int → Int) (n : Nat) : sz f (n + 1) = sz f n + f n := rfl
theorem sz_b {f : Int → Int} {n : Nat} (h : ∀ i : Int, 0 ≤ f i ∧ f i ≤ 1) : 0 ≤ sz f n ∧ sz f n ≤ n := by
  induction n with
  | zero => exact ⟨Int.le_refl _, Int.le_refl _⟩
  | succ n ih => have := h n; rw [sz_s]; omega
theorem ga_loop (N : Nat) (Wh : Nat → Prop) (hend : Wh N) (hstep : ∀ i, i < N → Wh (i + 1) → Wh i) : ∀ i, i ≤ N → Wh i := by
  have key : ∀ r i, i + r = N → Wh i := by
    intro r
    induction r with
    | zero => intro i hi; rw [Nat.add_zero] at hi; rw [hi]; exact hend
    | succ r ih => intro i hi; exact hstep i (by omega) (ih (i + 1) (by omega))
  intro i hi
  exact key (N - i) i (by omega)
/-- a net that is a port, or that a pin before e is on, of a device that is not gone -/
def usedTo (port gone pins : Int → Int) (e j : Int) : Prop := port j ≠ -1 ∨ ∃ z : Int, 0 ≤ z ∧ z < e ∧ gone (z / 4) = 0 ∧ pins z = j
noncomputable def usedF (nc : Int) (port gone pins old : Int → Int) (e : Int) : Int → Int := fun j => if 0 ≤ j ∧ j < nc then tv (usedTo port gone pins e j) else old j
theorem usedF_same {nc : Int} {port gone pins old : Int → Int} {e e2 : Int} (he : e ≤ e2) (h : ∀ z, e ≤ z → z < e2 → 0 ≤ z → gone (z / 4) = 0 → pins z = -1) : usedF nc port gone pins old e2 = usedF nc port gone pins old e := by
  funext j
  unfold usedF
  split
  · rename_i hj
    apply tv_congr
    constructor
    · rintro (q | ⟨z, h1, h2, h3, h4⟩)
      · exact Or.inl q
      · rcases Int.lt_or_le z e with q | q
        · exact Or.inr ⟨z, h1, q, h3, h4⟩
        · have := h z q h2 h1 h3
          omega
    · rintro (q | ⟨z, h1, h2, h3, h4⟩)
      · exact Or.inl q
      · exact Or.inr ⟨z, h1, by omega, h3, h4⟩
  · rfl
theorem usedF_put {nc : Int} {port gone pins old : Int → Int} {e : Int} (h0 : 0 ≤ e) (hg : gone (e / 4) = 0) (hp : 0 ≤ pins e ∧ pins e < nc) : ga_up (usedF nc port gone pins old e) (pins e) 1 = usedF nc port gone pins old (e + 1) := by
  funext j
  unfold ga_up
  split
  · rename_i hj
    unfold usedF
    rw [if_pos (by omega), tv1]
    exact Or.inr ⟨e, h0, by omega, hg, hj.symm⟩
  · rename_i hj
    unfold usedF
    split
    · apply tv_congr
      constructor
      · rintro (q | ⟨z, h1, h2, h3, h4⟩)
        · exact Or.inl q
        · exact Or.inr ⟨z, h1, by omega, h3, h4⟩
      · rintro (q | ⟨z, h1, h2, h3, h4⟩)
        · exact Or.inl q
        · rcases Int.lt_or_le z e with q | q
          · exact Or.inr ⟨z, h1, q, h3, h4⟩
          · have : z = e := by omega
            subst this
            exact absurd h4.symm hj
    · rfl
/-- the least name above another number among the first n, or -1 -/
def nameStep (a least name : Int) : Int := if a < name ∧ (least = -1 ∨ name < least) then name else least
def nameF (port : Int → Int) (a : Int) : Nat → Int
  | 0 => -1
  | n + 1 => nameStep a (nameF port a n) (port n)
/-- the first place from i on, n of them, where p holds, or -1 -/
def firstF (p : Int → Bool) : Nat → Int → Int
  | 0, _ => -1
  | n + 1, i => if p i then i else firstF p n (i + 1)
theorem T_X9_isNet_2 (x : Int) (σ : ga_S) : ga_Mt 0 0 0 mX9_isNet [Vr 2, Vi x] (HP σ) (gis (some (Vi (tv (0 ≤ x ∧ x < σ.1 2 0)))) σ) ga_nox := by
  refine ga_meth [some (Vr 2), some (Vi x)] rfl rfl (by decide +kernel) (Nat.le_of_ble_eq_true rfl) rfl ?_
  refine ga_iload_n dX9_isNet_0 rfl ?_
  refine ga_if_lt (tgt := 16) dX9_isNet_1 rfl (fun c_1 => ?_) (fun c_1 => ?_)
  · refine ga_iconst dX9_isNet_16 ⟨by decide, by decide⟩ ?_
    refine ga_ret (v := some _) ?_ rfl (by decide) (by decide) ⟨dX9_isNet_17, _, rfl, rfl⟩
    exact ⟨tvf (by omega), rfl⟩
  · refine ga_iload_n dX9_isNet_4 rfl ?_
    refine ga_aload_n dX9_isNet_5 rfl ?_
    refine hg_getI 0 grX9_9 dX9_isNet_6 rfl rfl rfl ?_
    refine ga_icmp_ge (tgt := 16) dX9_isNet_9 rfl (fun c_9 => ?_) (fun c_9 => ?_)
    · refine ga_iconst dX9_isNet_16 ⟨by decide, by decide⟩ ?_
      refine ga_ret (v := some _) ?_ rfl (by decide) (by decide) ⟨dX9_isNet_17, _, rfl, rfl⟩
      exact ⟨tvf (by omega), rfl⟩
    · refine ga_iconst dX9_isNet_12 ⟨by decide, by decide⟩ ?_
      refine ga_goto (tgt := 17) dX9_isNet_13 rfl ?_
      refine ga_ret (v := some _) ?_ rfl (by decide) (by decide) ⟨dX9_isNet_17, _, rfl, rfl⟩
      exact ⟨tvt (by omega), rfl⟩
theorem T_X9_isDevice_2 (x : Int) (σ : ga_S) : ga_Mt 0 0 0 mX9_isDevice [Vr 2, Vi x] (HP σ) (gis (some (Vi (tv (0 ≤ x ∧ x < σ.1 2 3)))) σ) ga_nox := by
  refine ga_meth [some (Vr 2), some (Vi x)] rfl rfl (by decide +kernel) (Nat.le_of_ble_eq_true rfl) rfl ?_
  refine ga_iload_n dX9_isDevice_0 rfl ?_
  refine ga_if_lt (tgt := 16) dX9_isDevice_1 rfl (fun c_1 => ?_) (fun c_1 => ?_)
  · refine ga_iconst dX9_isDevice_16 ⟨by decide, by decide⟩ ?_
    refine ga_ret (v := some _) ?_ rfl (by decide) (by decide) ⟨dX9_isDevice_17, _, rfl, rfl⟩
    exact ⟨tvf (by omega), rfl⟩
  · refine ga_iload_n dX9_isDevice_4 rfl ?_
    refine ga_aload_n dX9_isDevice_5 rfl ?_
    refine hg_getI 3 grX9_23 dX9_isDevice_6 rfl rfl rfl ?_
    refine ga_icmp_ge (tgt := 16) dX9_isDevice_9 rfl (fun c_9 => ?_) (fun c_9 => ?_)
    · refine ga_iconst dX9_isDevice_16 ⟨by decide, by decide⟩ ?_
      refine ga_ret (v := some _) ?_ rfl (by decide) (by decide) ⟨dX9_isDevice_17, _, rfl, rfl⟩
      exact ⟨tvf (by omega), rfl⟩
    · refine ga_iconst dX9_isDevice_12 ⟨by decide, by decide⟩ ?_
      refine ga_goto (tgt := 17) dX9_isDevice_13 rfl ?_
      refine ga_ret (v := some _) ?_ rfl (by decide) (by decide) ⟨dX9_isDevice_17, _, rfl, rfl⟩
      exact ⟨tvt (by omega), rfl⟩
theorem T_X9_addNet_2 (σ : ga_S) (h1 : 0 ≤ σ.1 2 0) (h2 : σ.1 2 0 < 40) : ga_Mt 0 0 0 mX9_addNet [Vr 2] (HP σ) (gis (some (Vi (σ.1 2 0))) (stI σ 2 (ga_up (σ.1 2) 0 (σ.1 2 0 + 1)))) ga_nox := by
  refine ga_meth [some (Vr 2)] rfl rfl (by decide +kernel) (Nat.le_of_ble_eq_true rfl) rfl ?_
  refine ga_aload_n dX9_addNet_0 rfl ?_
  refine ga_dup dX9_addNet_1 rfl ?_
  refine hg_getI 0 grX9_9 dX9_addNet_2 rfl rfl rfl ?_
  refine ga_iconst dX9_addNet_5 ⟨by decide, by decide⟩ ?_
  refine ga_iadd dX9_addNet_6 rfl (⟨by omega, by omega⟩) ?_
  refine hg_putI 0 gfX9_9 dX9_addNet_7 rfl rfl rfl ?_
  have e9 : (stI σ 2 (ga_up (σ.1 2) 0 (σ.1 2 0 + 1))).1 2 0 = σ.1 2 0 + 1 := rfl
  refine ga_aload_n dX9_addNet_10 rfl ?_
  refine hg_getI 0 grX9_9 dX9_addNet_11 rfl rfl rfl ?_
  refine ga_iconst dX9_addNet_14 ⟨by decide, by decide⟩ ?_
  refine ga_isub (z := σ.1 2 0) dX9_addNet_15 (by omega) (⟨by omega, by omega⟩) ?_
  refine ga_ret (v := some _) ?_ rfl (by decide) (by decide) ⟨dX9_addNet_16, _, rfl, rfl⟩
  exact ⟨rfl, rfl⟩
theorem T_X9_addDevice_2 (kd : Int) (z : UInt64) (σ : ga_S) (h1 : 0 ≤ σ.1 2 3) (h2 : σ.1 2 3 < 30) : ga_Mt 0 0 0 mX9_addDevice [Vr 2, Vi kd, Vd z] (HP σ) (gis (some (Vi (σ.1 2 3))) (stI (stD (stI σ 5 (ga_up (σ.1 5) (σ.1 2 3) kd)) 6 (ga_up (σ.2 6) (σ.1 2 3) z)) 2 (ga_up (σ.1 2) 3 (σ.1 2 3 + 1)))) ga_nox := by
  refine ga_meth [some (Vr 2), some (Vi kd), some (Vd z), none] rfl rfl (by decide +kernel) (Nat.le_of_ble_eq_true rfl) rfl ?_
  refine ga_aload_n dX9_addDevice_0 rfl ?_
  refine hg_getR grX9_26 dX9_addDevice_1 rfl rfl ?_
  refine ga_aload_n dX9_addDevice_4 rfl ?_
  refine hg_getI 3 grX9_23 dX9_addDevice_5 rfl rfl rfl ?_
  refine ga_iload_n dX9_addDevice_8 rfl ?_
  refine hg_iast dX9_addDevice_9 rfl (by omega) (by omega) ?_
  have e8 : (stI σ 5 (ga_up (σ.1 5) (σ.1 2 3) kd)).1 2 3 = σ.1 2 3 := rfl
  refine ga_aload_n dX9_addDevice_10 rfl ?_
  refine hg_getR grX9_29 dX9_addDevice_11 rfl rfl ?_
  refine ga_aload_n dX9_addDevice_14 rfl ?_
  refine hg_getI 3 grX9_23 dX9_addDevice_15 rfl rfl rfl ?_
  refine ga_dload_n dX9_addDevice_18 rfl ?_
  refine hg_dast dX9_addDevice_19 rfl (by omega) (by omega) ?_
  have e7 : (stD (stI σ 5 (ga_up (σ.1 5) (σ.1 2 3) kd)) 6 (ga_up ((stI σ 5 (ga_up (σ.1 5) (σ.1 2 3) kd)).2 6) ((stI σ 5 (ga_up (σ.1 5) (σ.1 2 3) kd)).1 2 3) z)).1 2 3 = σ.1 2 3 := rfl
  refine ga_aload_n dX9_addDevice_20 rfl ?_
  refine ga_dup dX9_addDevice_21 rfl ?_
  refine hg_getI 3 grX9_23 dX9_addDevice_22 rfl rfl rfl ?_
  refine ga_iconst dX9_addDevice_25 ⟨by decide, by decide⟩ ?_
  refine ga_iadd dX9_addDevice_26 rfl (⟨by omega, by omega⟩) ?_
  refine hg_putI 3 gfX9_23 dX9_addDevice_27 rfl rfl rfl ?_
  refine ga_aload_n dX9_addDevice_30 rfl ?_
  refine hg_getI 3 grX9_23 dX9_addDevice_31 rfl rfl rfl ?_
  refine ga_iconst dX9_addDevice_34 ⟨by decide, by decide⟩ ?_
  refine ga_isub (z := σ.1 2 3) dX9_addDevice_35 (by show σ.1 2 3 + 1 - 1 = σ.1 2 3; omega) (⟨by omega, by omega⟩) ?_
  refine ga_ret (v := some _) ?_ rfl (by decide) (by decide) ⟨dX9_addDevice_36, _, rfl, rfl⟩
  exact ⟨rfl, rfl⟩
theorem T_X9_netOf_2 (d k : Int) (σ : ga_S) (h1 : 0 ≤ d) (h2 : d < 30) (h3 : 0 ≤ k) (h4 : k < 4) : ga_Mt 0 0 0 mX9_netOf [Vr 2, Vi d, Vi k] (HP σ) (gis (some (Vi (σ.1 8 (d * 4 + k)))) σ) ga_nox := by
  refine ga_meth [some (Vr 2), some (Vi d), some (Vi k)] rfl rfl (by decide +kernel) (Nat.le_of_ble_eq_true rfl) rfl ?_
  refine ga_aload_n dX9_netOf_0 rfl ?_
  refine hg_getR grX9_36 dX9_netOf_1 rfl rfl ?_
  refine ga_iload_n dX9_netOf_4 rfl ?_
  refine ga_iconst dX9_netOf_5 ⟨by decide, by decide⟩ ?_
  refine ga_imul dX9_netOf_6 rfl (⟨by omega, by omega⟩) ?_
  refine ga_iload_n dX9_netOf_7 rfl ?_
  refine ga_iadd dX9_netOf_8 rfl (⟨by omega, by omega⟩) ?_
  refine hg_iald dX9_netOf_9 rfl (by omega) (by omega) ?_
  refine ga_ret (v := some _) ?_ rfl (by decide) (by decide) ⟨dX9_netOf_10, _, rfl, rfl⟩
  exact ⟨rfl, rfl⟩
theorem T_X9_connect_2 (d k n : Int) (σ : ga_S) (h1 : 0 ≤ d) (h2 : d < 30) (h3 : 0 ≤ k) (h4 : k < 4) : ga_Mt 1 0 0 mX9_connect [Vr 2, Vi d, Vi k, Vi n] (HP σ) (gis (some (Vi (tv (σ.1 8 (d * 4 + k) ≠ n)))) (stI σ 8 (ga_up (σ.1 8) (d * 4 + k) n))) ga_nox := by
  refine ga_meth [some (Vr 2), some (Vi d), some (Vi k), some (Vi n), none] rfl rfl (by decide +kernel) (Nat.le_of_ble_eq_true rfl) rfl ?_
  refine ga_aload_n dX9_connect_0 rfl ?_
  refine ga_iload_n dX9_connect_1 rfl ?_
  refine ga_iload_n dX9_connect_2 rfl ?_
  refine hc_V (T_X9_netOf_2 d k σ h1 h2 h3 h4) fX9_netOf rfl kX9_netOf lkX9_45 dX9_connect_3 rfl rfl rfl rfl rfl rfl rfl rfl ?_
  refine ga_iload_n dX9_connect_6 rfl ?_
  refine ga_icmp_eq (tgt := 14) dX9_connect_7 rfl (fun c_7 => ?_) (fun c_7 => ?_)
  · refine ga_iconst dX9_connect_14 ⟨by decide, by decide⟩ ?_
    refine ga_istore (lv2 := [_, _, _, _, _]) dX9_connect_15 (by decide) rfl rfl ?_
    refine ga_aload_n dX9_connect_17 rfl ?_
    refine hg_getR grX9_36 dX9_connect_18 rfl rfl ?_
    refine ga_iload_n dX9_connect_21 rfl ?_
    refine ga_iconst dX9_connect_22 ⟨by decide, by decide⟩ ?_
    refine ga_imul dX9_connect_23 rfl (⟨by omega, by omega⟩) ?_
    refine ga_iload_n dX9_connect_24 rfl ?_
    refine ga_iadd dX9_connect_25 rfl (⟨by omega, by omega⟩) ?_
    refine ga_iload_n dX9_connect_26 rfl ?_
    refine hg_iast dX9_connect_27 rfl (by omega) (by omega) ?_
    refine ga_iload dX9_connect_28 rfl ?_
    refine ga_ret (v := some _) ?_ rfl (by decide) (by decide) ⟨dX9_connect_30, _, rfl, rfl⟩
    exact ⟨tvf (fun z => z c_7), rfl⟩
  · refine ga_iconst dX9_connect_10 ⟨by decide, by decide⟩ ?_
    refine ga_goto (tgt := 15) dX9_connect_11 rfl ?_
    refine ga_istore (lv2 := [_, _, _, _, _]) dX9_connect_15 (by decide) rfl rfl ?_
    refine ga_aload_n dX9_connect_17 rfl ?_
    refine hg_getR grX9_36 dX9_connect_18 rfl rfl ?_
    refine ga_iload_n dX9_connect_21 rfl ?_
    refine ga_iconst dX9_connect_22 ⟨by decide, by decide⟩ ?_
    refine ga_imul dX9_connect_23 rfl (⟨by omega, by omega⟩) ?_
    refine ga_iload_n dX9_connect_24 rfl ?_
    refine ga_iadd dX9_connect_25 rfl (⟨by omega, by omega⟩) ?_
    refine ga_iload_n dX9_connect_26 rfl ?_
    refine hg_iast dX9_connect_27 rfl (by omega) (by omega) ?_
    refine ga_iload dX9_connect_28 rfl ?_
    refine ga_ret (v := some _) ?_ rfl (by decide) (by decide) ⟨dX9_connect_30, _, rfl, rfl⟩
    exact ⟨tvt c_7, rfl⟩
theorem T_X9_isPort_2 (n : Int) (σ : ga_S) (h1 : 0 ≤ n) (h2 : n < 40) : ga_Mt 0 0 0 mX9_isPort [Vr 2, Vi n] (HP σ) (gis (some (Vi (tv (σ.1 3 n ≠ -1)))) σ) ga_nox := by
  refine ga_meth [some (Vr 2), some (Vi n)] rfl rfl (by decide +kernel) (Nat.le_of_ble_eq_true rfl) rfl ?_
  refine ga_aload_n dX9_isPort_0 rfl ?_
  refine hg_getR grX9_15 dX9_isPort_1 rfl rfl ?_
  refine ga_iload_n dX9_isPort_4 rfl ?_
  refine hg_iald dX9_isPort_5 rfl (by omega) (by omega) ?_
  refine ga_iconst dX9_isPort_6 ⟨by decide, by decide⟩ ?_
  refine ga_icmp_eq (tgt := 14) dX9_isPort_7 rfl (fun c_7 => ?_) (fun c_7 => ?_)
  · refine ga_iconst dX9_isPort_14 ⟨by decide, by decide⟩ ?_
    refine ga_ret (v := some _) ?_ rfl (by decide) (by decide) ⟨dX9_isPort_15, _, rfl, rfl⟩
    exact ⟨tvf (fun z => z c_7), rfl⟩
  · refine ga_iconst dX9_isPort_10 ⟨by decide, by decide⟩ ?_
    refine ga_goto (tgt := 15) dX9_isPort_11 rfl ?_
    refine ga_ret (v := some _) ?_ rfl (by decide) (by decide) ⟨dX9_isPort_15, _, rfl, rfl⟩
    exact ⟨tvt c_7, rfl⟩
theorem T_X9_makePort_2 (n x : Int) (σ : ga_S) (h1 : 0 ≤ n) (h2 : n < 40) : ga_Mt 1 0 0 mX9_makePort [Vr 2, Vi n, Vi x] (HP σ) (gis (some (Vi (tv (σ.1 3 n = -1)))) (stI σ 3 (ga_up (σ.1 3) n x))) ga_nox := by
  refine ga_meth [some (Vr 2), some (Vi n), some (Vi x), none] rfl rfl (by decide +kernel) (Nat.le_of_ble_eq_true rfl) rfl ?_
  refine ga_aload_n dX9_makePort_0 rfl ?_
  refine ga_iload_n dX9_makePort_1 rfl ?_
  refine hc_V (T_X9_isPort_2 n σ h1 h2) fX9_isPort rfl kX9_isPort lkX9_49 dX9_makePort_2 rfl rfl rfl rfl rfl rfl rfl rfl ?_
  refine ga_if_ne (tgt := 12) dX9_makePort_5 rfl (fun c_5 => ?_) (fun c_5 => ?_)
  · rw [tv_ne0] at c_5
    refine ga_iconst dX9_makePort_12 ⟨by decide, by decide⟩ ?_
    refine ga_istore_n (lv2 := [_, _, _, _]) dX9_makePort_13 (by decide) rfl rfl ?_
    refine ga_aload_n dX9_makePort_14 rfl ?_
    refine hg_getR grX9_15 dX9_makePort_15 rfl rfl ?_
    refine ga_iload_n dX9_makePort_18 rfl ?_
    refine ga_iload_n dX9_makePort_19 rfl ?_
    refine hg_iast dX9_makePort_20 rfl (by omega) (by omega) ?_
    refine ga_iload_n dX9_makePort_21 rfl ?_
    refine ga_ret (v := some _) ?_ rfl (by decide) (by decide) ⟨dX9_makePort_22, _, rfl, rfl⟩
    exact ⟨tvf c_5, rfl⟩
  · rw [tv_eq0, Classical.not_not] at c_5
    refine ga_iconst dX9_makePort_8 ⟨by decide, by decide⟩ ?_
    refine ga_goto (tgt := 13) dX9_makePort_9 rfl ?_
    refine ga_istore_n (lv2 := [_, _, _, _]) dX9_makePort_13 (by decide) rfl rfl ?_
    refine ga_aload_n dX9_makePort_14 rfl ?_
    refine hg_getR grX9_15 dX9_makePort_15 rfl rfl ?_
    refine ga_iload_n dX9_makePort_18 rfl ?_
    refine ga_iload_n dX9_makePort_19 rfl ?_
    refine hg_iast dX9_makePort_20 rfl (by omega) (by omega) ?_
    refine ga_iload_n dX9_makePort_21 rfl ?_
    refine ga_ret (v := some _) ?_ rfl (by decide) (by decide) ⟨dX9_makePort_22, _, rfl, rfl⟩
    exact ⟨tvt c_5, rfl⟩
theorem T_X9_portNamed_2 (x : Int) (σ : ga_S) (N : Nat) (hN : σ.1 2 0 = N) (hN2 : N ≤ 40) : ga_Mt 1 0 0 mX9_portNamed [Vr 2, Vi x] (HP σ) (gis (some (Vi (firstF (fun n => decide (σ.1 3 n ≠ -1 ∧ σ.1 3 n = x)) N 0))) σ) ga_nox := by
  refine ga_meth [some (Vr 2), some (Vi x), none] rfl rfl (by decide +kernel) (Nat.le_of_ble_eq_true rfl) rfl ?_
  refine ga_iconst dX9_portNamed_0 ⟨by decide, by decide⟩ ?_
  refine ga_istore_n (lv2 := [_, _, _]) dX9_portNamed_1 (by decide) rfl rfl ?_
  refine (ga_loop N (fun i => ∀ r : Int, firstF (fun n => decide (σ.1 3 n ≠ -1 ∧ σ.1 3 n = x)) (N - i) i = r → ga_W 1 0 0 0 0 mX9_portNamed (gis (some (Vi r)) σ) ga_nox 2 [some (Vr 2), some (Vi x), some (Vi (i : Int))] [] (HP σ)) ?_ ?_ 0 (Nat.zero_le _) _ rfl : _)
  · intro r hr
    rw [Nat.sub_self] at hr
    refine ga_iload_n dX9_portNamed_2 rfl ?_
    refine ga_aload_n dX9_portNamed_3 rfl ?_
    refine hg_getI 0 grX9_9 dX9_portNamed_4 rfl rfl rfl ?_
    refine ga_icmp_ge (tgt := 36) dX9_portNamed_7 rfl (fun c_7 => ?_) (fun c_7 => ?_)
    · refine ga_iconst dX9_portNamed_36 ⟨by decide, by decide⟩ ?_
      refine ga_ret (v := some _) ?_ rfl (by decide) (by decide) ⟨dX9_portNamed_37, _, rfl, rfl⟩
      exact ⟨by rw [← hr]; rfl, rfl⟩
    · omega
  · intro i hi k r hr
    rw [show N - i = (N - (i + 1)) + 1 by omega] at hr
    unfold firstF at hr
    refine ga_iload_n dX9_portNamed_2 rfl ?_
    refine ga_aload_n dX9_portNamed_3 rfl ?_
    refine hg_getI 0 grX9_9 dX9_portNamed_4 rfl rfl rfl ?_
    refine ga_icmp_ge (tgt := 36) dX9_portNamed_7 rfl (fun c_7 => ?_) (fun c_7 => ?_)
    · omega
    · refine ga_aload_n dX9_portNamed_10 rfl ?_
      refine ga_iload_n dX9_portNamed_11 rfl ?_
      refine hc_V (T_X9_isPort_2 i σ (by omega) (by omega)) fX9_isPort rfl kX9_isPort lkX9_49 dX9_portNamed_12 rfl rfl rfl rfl rfl rfl rfl rfl ?_
      refine ga_if_eq (tgt := 30) dX9_portNamed_15 rfl (fun c_15 => ?_) (fun c_15 => ?_)
      · rw [tv_eq0] at c_15
        rw [if_neg (by rw [decide_eq_true_iff]; exact fun z => c_15 z.1)] at hr
        refine ga_iinc (z := ((i + 1 : Nat) : Int)) (lv2 := [_, _, _]) dX9_portNamed_30 (by decide) rfl rfl (by omega) (⟨by omega, by omega⟩) rfl ?_
        refine ga_goto (tgt := 2) dX9_portNamed_33 rfl ?_
        exact k r hr
      · rw [tv_ne0] at c_15
        refine ga_aload_n dX9_portNamed_18 rfl ?_
        refine hg_getR grX9_15 dX9_portNamed_19 rfl rfl ?_
        refine ga_iload_n dX9_portNamed_22 rfl ?_
        refine hg_iald dX9_portNamed_23 rfl (by omega) (by omega) ?_
        refine ga_iload_n dX9_portNamed_24 rfl ?_
        refine ga_icmp_ne (tgt := 30) dX9_portNamed_25 rfl (fun c_25 => ?_) (fun c_25 => ?_)
        · rw [if_neg (by rw [decide_eq_true_iff]; exact fun z => c_25 z.2)] at hr
          refine ga_iinc (z := ((i + 1 : Nat) : Int)) (lv2 := [_, _, _]) dX9_portNamed_30 (by decide) rfl rfl (by omega) (⟨by omega, by omega⟩) rfl ?_
          refine ga_goto (tgt := 2) dX9_portNamed_33 rfl ?_
          exact k r hr
        · rw [if_pos (by rw [decide_eq_true_iff]; exact ⟨c_15, c_25⟩)] at hr
          refine ga_iload_n dX9_portNamed_28 rfl ?_
          refine ga_ret (v := some _) ?_ rfl (by decide) (by decide) ⟨dX9_portNamed_29, _, rfl, rfl⟩
          exact ⟨by rw [← hr], rfl⟩
theorem T_X9_presentCount_2 (σ : ga_S) (N : Nat) (hN : σ.1 2 3 = N) (hN2 : N ≤ 30) : ga_Mt 0 0 0 mX9_presentCount [Vr 2] (HP σ) (gis (some (Vi (sz (fun d => tv (σ.1 7 d = 0)) N))) σ) ga_nox := by
  refine ga_meth [some (Vr 2), none, none] rfl rfl (by decide +kernel) (Nat.le_of_ble_eq_true rfl) rfl ?_
  refine ga_iconst dX9_presentCount_0 ⟨by decide, by decide⟩ ?_
  refine ga_istore_n (lv2 := [_, _, _]) dX9_presentCount_1 (by decide) rfl rfl ?_
  refine ga_iconst dX9_presentCount_2 ⟨by decide, by decide⟩ ?_
  refine ga_istore_n (lv2 := [_, _, _]) dX9_presentCount_3 (by decide) rfl rfl ?_
  refine (ga_loop N (fun i => ga_W 0 0 0 0 0 mX9_presentCount (gis (some (Vi (sz (fun d => tv (σ.1 7 d = 0)) N))) σ) ga_nox 4 [some (Vr 2), some (Vi (sz (fun d => tv (σ.1 7 d = 0)) i)), some (Vi (i : Int))] [] (HP σ)) ?_ ?_ 0 (Nat.zero_le _) : _)
  · refine ga_iload_n dX9_presentCount_4 rfl ?_
    refine ga_aload_n dX9_presentCount_5 rfl ?_
    refine hg_getI 3 grX9_23 dX9_presentCount_6 rfl rfl rfl ?_
    refine ga_icmp_ge (tgt := 30) dX9_presentCount_9 rfl (fun c_9 => ?_) (fun c_9 => ?_)
    · refine ga_iload_n dX9_presentCount_30 rfl ?_
      refine ga_ret (v := some _) ?_ rfl (by decide) (by decide) ⟨dX9_presentCount_31, _, rfl, rfl⟩
      exact ⟨rfl, rfl⟩
    · omega
  · intro i hi k
    have hb := sz_b (f := fun d => tv (σ.1 7 d = 0)) (n := i) (fun _ => tv_le)
    simp only [sz_s] at k
    refine ga_iload_n dX9_presentCount_4 rfl ?_
    refine ga_aload_n dX9_presentCount_5 rfl ?_
    refine hg_getI 3 grX9_23 dX9_presentCount_6 rfl rfl rfl ?_
    refine ga_icmp_ge (tgt := 30) dX9_presentCount_9 rfl (fun c_9 => ?_) (fun c_9 => ?_)
    · omega
    · refine ga_aload_n dX9_presentCount_12 rfl ?_
      refine hg_getR grX9_33 dX9_presentCount_13 rfl rfl ?_
      refine ga_iload_n dX9_presentCount_16 rfl ?_
      refine hg_zald dX9_presentCount_17 rfl (by omega) (by omega) ?_
      refine ga_if_ne (tgt := 24) dX9_presentCount_18 rfl (fun c_18 => ?_) (fun c_18 => ?_)
      · rw [tvz c_18, Int.add_zero] at k
        refine ga_iinc (z := ((i + 1 : Nat) : Int)) (lv2 := [_, _, _]) dX9_presentCount_24 (by decide) rfl rfl (by omega) (⟨by omega, by omega⟩) rfl ?_
        refine ga_goto (tgt := 4) dX9_presentCount_27 rfl ?_
        exact k
      · rw [tv1 c_18] at k
        refine ga_iinc (lv2 := [_, _, _]) dX9_presentCount_21 (by decide) rfl rfl rfl (⟨by omega, by omega⟩) rfl ?_
        refine ga_iinc (z := ((i + 1 : Nat) : Int)) (lv2 := [_, _, _]) dX9_presentCount_24 (by decide) rfl rfl (by omega) (⟨by omega, by omega⟩) rfl ?_
        refine ga_goto (tgt := 4) dX9_presentCount_27 rfl ?_
        exact k
theorem T_X9_presentOfKind_2 (kd : Int) (σ : ga_S) (N : Nat) (hN : σ.1 2 3 = N) (hN2 : N ≤ 30) : ga_Mt 0 0 0 mX9_presentOfKind [Vr 2, Vi kd] (HP σ) (gis (some (Vi (sz (fun d => tv (σ.1 7 d = 0 ∧ σ.1 5 d = kd)) N))) σ) ga_nox := by
  refine ga_meth [some (Vr 2), some (Vi kd), none, none] rfl rfl (by decide +kernel) (Nat.le_of_ble_eq_true rfl) rfl ?_
  refine ga_iconst dX9_presentOfKind_0 ⟨by decide, by decide⟩ ?_
  refine ga_istore_n (lv2 := [_, _, _, _]) dX9_presentOfKind_1 (by decide) rfl rfl ?_
  refine ga_iconst dX9_presentOfKind_2 ⟨by decide, by decide⟩ ?_
  refine ga_istore_n (lv2 := [_, _, _, _]) dX9_presentOfKind_3 (by decide) rfl rfl ?_
  refine (ga_loop N (fun i => ga_W 0 0 0 0 0 mX9_presentOfKind (gis (some (Vi (sz (fun d => tv (σ.1 7 d = 0 ∧ σ.1 5 d = kd)) N))) σ) ga_nox 4 [some (Vr 2), some (Vi kd), some (Vi (sz (fun d => tv (σ.1 7 d = 0 ∧ σ.1 5 d = kd)) i)), some (Vi (i : Int))] [] (HP σ)) ?_ ?_ 0 (Nat.zero_le _) : _)
  · refine ga_iload_n dX9_presentOfKind_4 rfl ?_
    refine ga_aload_n dX9_presentOfKind_5 rfl ?_
    refine hg_getI 3 grX9_23 dX9_presentOfKind_6 rfl rfl rfl ?_
    refine ga_icmp_ge (tgt := 40) dX9_presentOfKind_9 rfl (fun c_9 => ?_) (fun c_9 => ?_)
    · refine ga_iload_n dX9_presentOfKind_40 rfl ?_
      refine ga_ret (v := some _) ?_ rfl (by decide) (by decide) ⟨dX9_presentOfKind_41, _, rfl, rfl⟩
      exact ⟨rfl, rfl⟩
    · omega
  · intro i hi k
    have hb := sz_b (f := fun d => tv (σ.1 7 d = 0 ∧ σ.1 5 d = kd)) (n := i) (fun _ => tv_le)
    simp only [sz_s] at k
    refine ga_iload_n dX9_presentOfKind_4 rfl ?_
    refine ga_aload_n dX9_presentOfKind_5 rfl ?_
    refine hg_getI 3 grX9_23 dX9_presentOfKind_6 rfl rfl rfl ?_
    refine ga_icmp_ge (tgt := 40) dX9_presentOfKind_9 rfl (fun c_9 => ?_) (fun c_9 => ?_)
    · omega
    · refine ga_aload_n dX9_presentOfKind_12 rfl ?_
      refine hg_getR grX9_33 dX9_presentOfKind_13 rfl rfl ?_
      refine ga_iload_n dX9_presentOfKind_16 rfl ?_
      refine hg_zald dX9_presentOfKind_17 rfl (by omega) (by omega) ?_
      refine ga_if_ne (tgt := 34) dX9_presentOfKind_18 rfl (fun c_18 => ?_) (fun c_18 => ?_)
      · rw [tvz (fun z => c_18 z.1), Int.add_zero] at k
        refine ga_iinc (z := ((i + 1 : Nat) : Int)) (lv2 := [_, _, _, _]) dX9_presentOfKind_34 (by decide) rfl rfl (by omega) (⟨by omega, by omega⟩) rfl ?_
        refine ga_goto (tgt := 4) dX9_presentOfKind_37 rfl ?_
        exact k
      · refine ga_aload_n dX9_presentOfKind_21 rfl ?_
        refine hg_getR grX9_26 dX9_presentOfKind_22 rfl rfl ?_
        refine ga_iload_n dX9_presentOfKind_25 rfl ?_
        refine hg_iald dX9_presentOfKind_26 rfl (by omega) (by omega) ?_
        refine ga_iload_n dX9_presentOfKind_27 rfl ?_
        refine ga_icmp_ne (tgt := 34) dX9_presentOfKind_28 rfl (fun c_28 => ?_) (fun c_28 => ?_)
        · rw [tvz (fun z => c_28 z.2), Int.add_zero] at k
          refine ga_iinc (z := ((i + 1 : Nat) : Int)) (lv2 := [_, _, _, _]) dX9_presentOfKind_34 (by decide) rfl rfl (by omega) (⟨by omega, by omega⟩) rfl ?_
          refine ga_goto (tgt := 4) dX9_presentOfKind_37 rfl ?_
          exact k
        · rw [tv1 ⟨c_18, c_28⟩] at k
          refine ga_iinc (lv2 := [_, _, _, _]) dX9_presentOfKind_31 (by decide) rfl rfl rfl (⟨by omega, by omega⟩) rfl ?_
          refine ga_iinc (z := ((i + 1 : Nat) : Int)) (lv2 := [_, _, _, _]) dX9_presentOfKind_34 (by decide) rfl rfl (by omega) (⟨by omega, by omega⟩) rfl ?_
          refine ga_goto (tgt := 4) dX9_presentOfKind_37 rfl ?_
          exact k
theorem T_X9_usedCount_2 (σ : ga_S) (N : Nat) (hN : σ.1 2 0 = N) (hN2 : N ≤ 40) : ga_Mt 0 0 0 mX9_usedCount [Vr 2] (HP σ) (gis (some (Vi (sz (fun d => tv (σ.1 4 d ≠ 0)) N))) σ) ga_nox := by
  refine ga_meth [some (Vr 2), none, none] rfl rfl (by decide +kernel) (Nat.le_of_ble_eq_true rfl) rfl ?_
  refine ga_iconst dX9_usedCount_0 ⟨by decide, by decide⟩ ?_
  refine ga_istore_n (lv2 := [_, _, _]) dX9_usedCount_1 (by decide) rfl rfl ?_
  refine ga_iconst dX9_usedCount_2 ⟨by decide, by decide⟩ ?_
  refine ga_istore_n (lv2 := [_, _, _]) dX9_usedCount_3 (by decide) rfl rfl ?_
  refine (ga_loop N (fun i => ga_W 0 0 0 0 0 mX9_usedCount (gis (some (Vi (sz (fun d => tv (σ.1 4 d ≠ 0)) N))) σ) ga_nox 4 [some (Vr 2), some (Vi (sz (fun d => tv (σ.1 4 d ≠ 0)) i)), some (Vi (i : Int))] [] (HP σ)) ?_ ?_ 0 (Nat.zero_le _) : _)
  · refine ga_iload_n dX9_usedCount_4 rfl ?_
    refine ga_aload_n dX9_usedCount_5 rfl ?_
    refine hg_getI 0 grX9_9 dX9_usedCount_6 rfl rfl rfl ?_
    refine ga_icmp_ge (tgt := 30) dX9_usedCount_9 rfl (fun c_9 => ?_) (fun c_9 => ?_)
    · refine ga_iload_n dX9_usedCount_30 rfl ?_
      refine ga_ret (v := some _) ?_ rfl (by decide) (by decide) ⟨dX9_usedCount_31, _, rfl, rfl⟩
      exact ⟨rfl, rfl⟩
    · omega
  · intro i hi k
    have hb := sz_b (f := fun d => tv (σ.1 4 d ≠ 0)) (n := i) (fun _ => tv_le)
    simp only [sz_s] at k
    refine ga_iload_n dX9_usedCount_4 rfl ?_
    refine ga_aload_n dX9_usedCount_5 rfl ?_
    refine hg_getI 0 grX9_9 dX9_usedCount_6 rfl rfl rfl ?_
    refine ga_icmp_ge (tgt := 30) dX9_usedCount_9 rfl (fun c_9 => ?_) (fun c_9 => ?_)
    · omega
    · refine ga_aload_n dX9_usedCount_12 rfl ?_
      refine hg_getR grX9_19 dX9_usedCount_13 rfl rfl ?_
      refine ga_iload_n dX9_usedCount_16 rfl ?_
      refine hg_zald dX9_usedCount_17 rfl (by omega) (by omega) ?_
      refine ga_if_eq (tgt := 24) dX9_usedCount_18 rfl (fun c_18 => ?_) (fun c_18 => ?_)
      · rw [tvz (fun z => z c_18), Int.add_zero] at k
        refine ga_iinc (z := ((i + 1 : Nat) : Int)) (lv2 := [_, _, _]) dX9_usedCount_24 (by decide) rfl rfl (by omega) (⟨by omega, by omega⟩) rfl ?_
        refine ga_goto (tgt := 4) dX9_usedCount_27 rfl ?_
        exact k
      · rw [tv1 c_18] at k
        refine ga_iinc (lv2 := [_, _, _]) dX9_usedCount_21 (by decide) rfl rfl rfl (⟨by omega, by omega⟩) rfl ?_
        refine ga_iinc (z := ((i + 1 : Nat) : Int)) (lv2 := [_, _, _]) dX9_usedCount_24 (by decide) rfl rfl (by omega) (⟨by omega, by omega⟩) rfl ?_
        refine ga_goto (tgt := 4) dX9_usedCount_27 rfl ?_
        exact k
theorem T_X9_nextPortName_2 (a : Int) (σ : ga_S) (N : Nat) (hN : σ.1 2 0 = N) (hN2 : N ≤ 40) : ga_Mt 0 0 0 mX9_nextPortName [Vr 2, Vi a] (HP σ) (gis (some (Vi (nameF (σ.1 3) a N))) σ) ga_nox := by
  refine ga_meth [some (Vr 2), some (Vi a), none, none, none] rfl rfl (by decide +kernel) (Nat.le_of_ble_eq_true rfl) rfl ?_
  refine ga_iconst dX9_nextPortName_0 ⟨by decide, by decide⟩ ?_
  refine ga_istore_n (lv2 := [_, _, _, _, _]) dX9_nextPortName_1 (by decide) rfl rfl ?_
  refine ga_iconst dX9_nextPortName_2 ⟨by decide, by decide⟩ ?_
  refine ga_istore_n (lv2 := [_, _, _, _, _]) dX9_nextPortName_3 (by decide) rfl rfl ?_
  refine (ga_loop N (fun i => ∀ z, ga_W 0 0 0 0 0 mX9_nextPortName (gis (some (Vi (nameF (σ.1 3) a N))) σ) ga_nox 4 [some (Vr 2), some (Vi a), some (Vi (nameF (σ.1 3) a i)), some (Vi (i : Int)), z] [] (HP σ)) ?_ ?_ 0 (Nat.zero_le _) _ : _)
  · intro z
    refine ga_iload_n dX9_nextPortName_4 rfl ?_
    refine ga_aload_n dX9_nextPortName_5 rfl ?_
    refine hg_getI 0 grX9_9 dX9_nextPortName_6 rfl rfl rfl ?_
    refine ga_icmp_ge (tgt := 46) dX9_nextPortName_9 rfl (fun c_9 => ?_) (fun c_9 => ?_)
    · refine ga_iload_n dX9_nextPortName_46 rfl ?_
      refine ga_ret (v := some _) ?_ rfl (by decide) (by decide) ⟨dX9_nextPortName_47, _, rfl, rfl⟩
      exact ⟨rfl, rfl⟩
    · omega
  · intro i hi k z
    simp only [nameF, nameStep] at k
    refine ga_iload_n dX9_nextPortName_4 rfl ?_
    refine ga_aload_n dX9_nextPortName_5 rfl ?_
    refine hg_getI 0 grX9_9 dX9_nextPortName_6 rfl rfl rfl ?_
    refine ga_icmp_ge (tgt := 46) dX9_nextPortName_9 rfl (fun c_9 => ?_) (fun c_9 => ?_)
    · omega
    · refine ga_aload_n dX9_nextPortName_12 rfl ?_
      refine hg_getR grX9_15 dX9_nextPortName_13 rfl rfl ?_
      refine ga_iload_n dX9_nextPortName_16 rfl ?_
      refine hg_iald dX9_nextPortName_17 rfl (by omega) (by omega) ?_
      refine ga_istore (lv2 := [_, _, _, _, _]) dX9_nextPortName_18 (by decide) rfl rfl ?_
      refine ga_iload dX9_nextPortName_20 rfl ?_
      refine ga_iload_n dX9_nextPortName_22 rfl ?_
      refine ga_icmp_le (tgt := 40) dX9_nextPortName_23 rfl (fun c_23 => ?_) (fun c_23 => ?_)
      · rw [if_neg (by omega)] at k
        refine ga_iinc (z := ((i + 1 : Nat) : Int)) (lv2 := [_, _, _, _, _]) dX9_nextPortName_40 (by decide) rfl rfl (by omega) (⟨by omega, by omega⟩) rfl ?_
        refine ga_goto (tgt := 4) dX9_nextPortName_43 rfl ?_
        exact k _
      · refine ga_iload_n dX9_nextPortName_26 rfl ?_
        refine ga_iconst dX9_nextPortName_27 ⟨by decide, by decide⟩ ?_
        refine ga_icmp_eq (tgt := 37) dX9_nextPortName_28 rfl (fun c_28 => ?_) (fun c_28 => ?_)
        · rw [if_pos (by omega)] at k
          refine ga_iload dX9_nextPortName_37 rfl ?_
          refine ga_istore_n (lv2 := [_, _, _, _, _]) dX9_nextPortName_39 (by decide) rfl rfl ?_
          refine ga_iinc (z := ((i + 1 : Nat) : Int)) (lv2 := [_, _, _, _, _]) dX9_nextPortName_40 (by decide) rfl rfl (by omega) (⟨by omega, by omega⟩) rfl ?_
          refine ga_goto (tgt := 4) dX9_nextPortName_43 rfl ?_
          exact k _
        · refine ga_iload dX9_nextPortName_31 rfl ?_
          refine ga_iload_n dX9_nextPortName_33 rfl ?_
          refine ga_icmp_ge (tgt := 40) dX9_nextPortName_34 rfl (fun c_34 => ?_) (fun c_34 => ?_)
          · rw [if_neg (by omega)] at k
            refine ga_iinc (z := ((i + 1 : Nat) : Int)) (lv2 := [_, _, _, _, _]) dX9_nextPortName_40 (by decide) rfl rfl (by omega) (⟨by omega, by omega⟩) rfl ?_
            refine ga_goto (tgt := 4) dX9_nextPortName_43 rfl ?_
            exact k _
          · rw [if_pos (by omega)] at k
            refine ga_iload dX9_nextPortName_37 rfl ?_
            refine ga_istore_n (lv2 := [_, _, _, _, _]) dX9_nextPortName_39 (by decide) rfl rfl ?_
            refine ga_iinc (z := ((i + 1 : Nat) : Int)) (lv2 := [_, _, _, _, _]) dX9_nextPortName_40 (by decide) rfl rfl (by omega) (⟨by omega, by omega⟩) rfl ?_
            refine ga_goto (tgt := 4) dX9_nextPortName_43 rfl ?_
            exact k _
theorem T_X9_markUsedNets_2 (σ : ga_S) (N D : Nat) (hN : σ.1 2 0 = N) (hN2 : N ≤ 40) (hD : σ.1 2 3 = D) (hD2 : D ≤ 30) (hpin : ∀ j : Int, 0 ≤ j → j < 4 * D → -1 ≤ σ.1 8 j ∧ σ.1 8 j < N) : ga_Mt 1 0 0 mX9_markUsedNets [Vr 2] (HP σ) (gis none (stI σ 4 (usedF N (σ.1 3) (σ.1 7) (σ.1 8) (σ.1 4) (4 * D)))) ga_nox := by
  refine ga_meth [some (Vr 2), none, none, none] rfl rfl (by decide +kernel) (Nat.le_of_ble_eq_true rfl) rfl ?_
  refine ga_iconst dX9_markUsedNets_0 ⟨by decide, by decide⟩ ?_
  refine ga_istore_n (lv2 := [_, _, _, _]) dX9_markUsedNets_1 (by decide) rfl rfl ?_
  have e0 : usedF ((0 : Nat) : Int) (σ.1 3) (σ.1 7) (σ.1 8) (σ.1 4) 0 = σ.1 4 := by funext j; unfold usedF; rw [if_neg (by omega)]
  have L1 := ga_loop N (fun i => ga_W 1 0 0 0 0 mX9_markUsedNets (gis none (stI σ 4 (usedF N (σ.1 3) (σ.1 7) (σ.1 8) (σ.1 4) (4 * D)))) ga_nox 2 [some (Vr 2), some (Vi (i : Int)), none, none] [] (HP (stI σ 4 (usedF i (σ.1 3) (σ.1 7) (σ.1 8) (σ.1 4) 0)))) ?_ ?_ 0 (Nat.zero_le _)
  · rw [e0, stI_self] at L1
    exact L1
  · have hN9 : (stI σ 4 (usedF N (σ.1 3) (σ.1 7) (σ.1 8) (σ.1 4) 0)).1 2 0 = N := hN
    refine ga_iload_n dX9_markUsedNets_2 rfl ?_
    refine ga_aload_n dX9_markUsedNets_3 rfl ?_
    refine hg_getI 0 grX9_9 dX9_markUsedNets_4 rfl rfl rfl ?_
    refine ga_icmp_ge (tgt := 27) dX9_markUsedNets_7 rfl (fun c_7 => ?_) (fun c_7 => ?_)
    · refine ga_iconst dX9_markUsedNets_27 ⟨by decide, by decide⟩ ?_
      refine ga_istore_n (lv2 := [_, _, _, _]) dX9_markUsedNets_28 (by decide) rfl rfl ?_
      refine (ga_loop D (fun i => ∀ y z, ga_W 1 0 0 0 0 mX9_markUsedNets (gis none (stI σ 4 (usedF N (σ.1 3) (σ.1 7) (σ.1 8) (σ.1 4) (4 * D)))) ga_nox 29 [some (Vr 2), some (Vi (i : Int)), y, z] [] (HP (stI σ 4 (usedF N (σ.1 3) (σ.1 7) (σ.1 8) (σ.1 4) (4 * i))))) ?_ ?_ 0 (Nat.zero_le _) _ _ : _)
      · intro y z
        have hD9 : (stI σ 4 (usedF N (σ.1 3) (σ.1 7) (σ.1 8) (σ.1 4) (4 * D))).1 2 3 = D := hD
        refine ga_iload_n dX9_markUsedNets_29 rfl ?_
        refine ga_aload_n dX9_markUsedNets_30 rfl ?_
        refine hg_getI 3 grX9_23 dX9_markUsedNets_31 rfl rfl rfl ?_
        refine ga_icmp_ge (tgt := 84) dX9_markUsedNets_34 rfl (fun c_34 => ?_) (fun c_34 => ?_)
        · refine ga_ret (v := none) ?_ rfl (by decide) (by decide) ⟨dX9_markUsedNets_84, rfl⟩
          exact ⟨rfl, rfl⟩
        · omega
      · intro i hi k y z
        have hD9 : (stI σ 4 (usedF N (σ.1 3) (σ.1 7) (σ.1 8) (σ.1 4) (4 * i))).1 2 3 = D := hD
        refine ga_iload_n dX9_markUsedNets_29 rfl ?_
        refine ga_aload_n dX9_markUsedNets_30 rfl ?_
        refine hg_getI 3 grX9_23 dX9_markUsedNets_31 rfl rfl rfl ?_
        refine ga_icmp_ge (tgt := 84) dX9_markUsedNets_34 rfl (fun c_34 => ?_) (fun c_34 => ?_)
        · omega
        · refine ga_iconst dX9_markUsedNets_37 ⟨by decide, by decide⟩ ?_
          refine ga_istore_n (lv2 := [_, _, _, _]) dX9_markUsedNets_38 (by decide) rfl rfl ?_
          refine (ga_loop 4 (fun q => ∀ z, ga_W 1 0 0 0 0 mX9_markUsedNets (gis none (stI σ 4 (usedF N (σ.1 3) (σ.1 7) (σ.1 8) (σ.1 4) (4 * D)))) ga_nox 39 [some (Vr 2), some (Vi (i : Int)), some (Vi (q : Int)), z] [] (HP (stI σ 4 (usedF N (σ.1 3) (σ.1 7) (σ.1 8) (σ.1 4) (4 * i + q))))) ?_ ?_ 0 (Nat.zero_le _) _ : _)
          · intro z
            rw [show (4 * (i : Int) + ((4 : Nat) : Int)) = 4 * ((i + 1 : Nat) : Int) by omega]
            refine ga_iload_n dX9_markUsedNets_39 rfl ?_
            refine ga_iconst dX9_markUsedNets_40 ⟨by decide, by decide⟩ ?_
            refine ga_icmp_ge (tgt := 78) dX9_markUsedNets_41 rfl (fun c_41 => ?_) (fun c_41 => ?_)
            · refine ga_iinc (z := ((i + 1 : Nat) : Int)) (lv2 := [_, _, _, _]) dX9_markUsedNets_78 (by decide) rfl rfl (by omega) (⟨by omega, by omega⟩) rfl ?_
              refine ga_goto (tgt := 29) dX9_markUsedNets_81 rfl ?_
              exact k _ _
            · omega
          · intro q hq k2 z
            have hpq := hpin (4 * i + q) (by omega) (by omega)
            refine ga_iload_n dX9_markUsedNets_39 rfl ?_
            refine ga_iconst dX9_markUsedNets_40 ⟨by decide, by decide⟩ ?_
            refine ga_icmp_ge (tgt := 78) dX9_markUsedNets_41 rfl (fun c_41 => ?_) (fun c_41 => ?_)
            · omega
            · refine ga_aload_n dX9_markUsedNets_44 rfl ?_
              refine hg_getR grX9_33 dX9_markUsedNets_45 rfl rfl ?_
              refine ga_iload_n dX9_markUsedNets_48 rfl ?_
              refine hg_zald dX9_markUsedNets_49 rfl (by omega) (by omega) ?_
              refine ga_if_ne (tgt := 78) dX9_markUsedNets_50 rfl (fun c_50 => ?_) (fun c_50 => ?_)
              · have c9 : ¬ σ.1 7 (i : Int) = 0 := c_50
                refine ga_iinc (z := ((i + 1 : Nat) : Int)) (lv2 := [_, _, _, _]) dX9_markUsedNets_78 (by decide) rfl rfl (by omega) (⟨by omega, by omega⟩) rfl ?_
                refine ga_goto (tgt := 29) dX9_markUsedNets_81 rfl ?_
                have e3 : usedF N (σ.1 3) (σ.1 7) (σ.1 8) (σ.1 4) (4 * (i : Int) + q) = usedF N (σ.1 3) (σ.1 7) (σ.1 8) (σ.1 4) (4 * ((i + 1 : Nat) : Int)) := (usedF_same (by omega) (fun z h1 h2 h3 h4 => by rw [show z / 4 = (i : Int) by omega] at h4; exact absurd h4 c9)).symm
                rw [e3]
                exact k _ _
              · have c9 : σ.1 7 (i : Int) = 0 := c_50
                refine ga_aload_n dX9_markUsedNets_53 rfl ?_
                refine ga_iload_n dX9_markUsedNets_54 rfl ?_
                refine ga_iload_n dX9_markUsedNets_55 rfl ?_
                refine hc_V (T_X9_netOf_2 i q _ (by omega) (by omega) (by omega) (by omega)) fX9_netOf rfl kX9_netOf lkX9_45 dX9_markUsedNets_56 rfl rfl rfl rfl rfl rfl rfl rfl ?_
                refine ga_istore_n (lv2 := [_, _, _, _]) dX9_markUsedNets_59 (by decide) rfl rfl ?_
                refine ga_iload_n dX9_markUsedNets_60 rfl ?_
                refine ga_iconst dX9_markUsedNets_61 ⟨by decide, by decide⟩ ?_
                refine ga_icmp_eq (tgt := 72) dX9_markUsedNets_62 rfl (fun c_62 => ?_) (fun c_62 => ?_)
                · have c8 : σ.1 8 ((i : Int) * 4 + q) = -1 := c_62
                  rw [show (i : Int) * 4 + q = 4 * i + q by omega] at c8
                  refine ga_iinc (z := ((q + 1 : Nat) : Int)) (lv2 := [_, _, _, _]) dX9_markUsedNets_72 (by decide) rfl rfl (by omega) (⟨by omega, by omega⟩) rfl ?_
                  refine ga_goto (tgt := 39) dX9_markUsedNets_75 rfl ?_
                  have e3 : usedF N (σ.1 3) (σ.1 7) (σ.1 8) (σ.1 4) (4 * (i : Int) + q) = usedF N (σ.1 3) (σ.1 7) (σ.1 8) (σ.1 4) (4 * (i : Int) + ((q + 1 : Nat) : Int)) := (usedF_same (by omega) (fun z h1 h2 h3 h4 => by rw [show z = 4 * (i : Int) + q by omega]; exact c8)).symm
                  rw [e3]
                  exact k2 _
                · have c8 : ¬ σ.1 8 ((i : Int) * 4 + q) = -1 := c_62
                  have e7 : (stI σ 4 (usedF N (σ.1 3) (σ.1 7) (σ.1 8) (σ.1 4) (4 * i + q))).1 8 ((i : Int) * 4 + q) = σ.1 8 (4 * i + q) := by rw [show (i : Int) * 4 + q = 4 * i + q by omega]; rfl
                  rw [show (i : Int) * 4 + q = 4 * i + q by omega] at c8
                  refine ga_aload_n dX9_markUsedNets_65 rfl ?_
                  refine hg_getR grX9_19 dX9_markUsedNets_66 rfl rfl ?_
                  refine ga_iload_n dX9_markUsedNets_69 rfl ?_
                  refine ga_iconst dX9_markUsedNets_70 ⟨by decide, by decide⟩ ?_
                  refine hg_zast dX9_markUsedNets_71 rfl (by rw [e7]; omega) (by rw [e7]; omega) (by omega) ?_
                  refine ga_iinc (z := ((q + 1 : Nat) : Int)) (lv2 := [_, _, _, _]) dX9_markUsedNets_72 (by decide) rfl rfl (by omega) (⟨by omega, by omega⟩) rfl ?_
                  refine ga_goto (tgt := 39) dX9_markUsedNets_75 rfl ?_
                  have e3 : ga_up (usedF N (σ.1 3) (σ.1 7) (σ.1 8) (σ.1 4) (4 * (i : Int) + q)) (σ.1 8 (4 * i + q)) 1 = usedF N (σ.1 3) (σ.1 7) (σ.1 8) (σ.1 4) (4 * (i : Int) + ((q + 1 : Nat) : Int)) := (usedF_put (by omega) (by rw [show (4 * (i : Int) + q) / 4 = i by omega]; exact c9) (by omega)).trans (by rw [show 4 * (i : Int) + q + 1 = 4 * (i : Int) + ((q + 1 : Nat) : Int) by omega])
                  rw [e7, stI_st, stI_at, e3]
                  exact k2 _
    · omega
  · intro i hi k
    have hN9 : (stI σ 4 (usedF i (σ.1 3) (σ.1 7) (σ.1 8) (σ.1 4) 0)).1 2 0 = N := hN
    have e1 : ga_up (usedF i (σ.1 3) (σ.1 7) (σ.1 8) (σ.1 4) 0) (i : Int) (tv (σ.1 3 (i : Int) ≠ -1)) = usedF ((i + 1 : Nat) : Int) (σ.1 3) (σ.1 7) (σ.1 8) (σ.1 4) 0 := by
      funext j
      unfold ga_up usedF
      by_cases hj : j = (i : Int)
      · rw [if_pos hj, if_pos (by omega), hj]
        apply tv_congr
        constructor
        · exact Or.inl
        · rintro (q | ⟨z, h1, h2, h3, h4⟩)
          · exact q
          · omega
      · rw [if_neg hj]
        by_cases h2 : 0 ≤ j ∧ j < (i : Int)
        · rw [if_pos h2, if_pos (by omega)]
        · rw [if_neg h2, if_neg (by omega)]
    refine ga_iload_n dX9_markUsedNets_2 rfl ?_
    refine ga_aload_n dX9_markUsedNets_3 rfl ?_
    refine hg_getI 0 grX9_9 dX9_markUsedNets_4 rfl rfl rfl ?_
    refine ga_icmp_ge (tgt := 27) dX9_markUsedNets_7 rfl (fun c_7 => ?_) (fun c_7 => ?_)
    · omega
    · refine ga_aload_n dX9_markUsedNets_10 rfl ?_
      refine hg_getR grX9_19 dX9_markUsedNets_11 rfl rfl ?_
      refine ga_iload_n dX9_markUsedNets_14 rfl ?_
      refine ga_aload_n dX9_markUsedNets_15 rfl ?_
      refine ga_iload_n dX9_markUsedNets_16 rfl ?_
      refine hc_V (T_X9_isPort_2 i _ (by omega) (by omega)) fX9_isPort rfl kX9_isPort lkX9_49 dX9_markUsedNets_17 rfl rfl rfl rfl rfl rfl rfl rfl ?_
      refine hg_zast dX9_markUsedNets_20 rfl (by omega) (by omega) (tv01) ?_
      refine ga_iinc (z := ((i + 1 : Nat) : Int)) (lv2 := [_, _, _, _]) dX9_markUsedNets_21 (by decide) rfl rfl (by omega) (⟨by omega, by omega⟩) rfl ?_
      refine ga_goto (tgt := 2) dX9_markUsedNets_24 rfl ?_
      rw [stI_st, stI_at]
      refine ga_eqh (congrArg (fun f => HP (stI σ 4 f)) e1) ?_
      exact k
theorem T_X9_isNet_9 (x : Int) (σ : ga_S) : ga_Mt 0 0 0 mX9_isNet [Vr 9, Vi x] (HP σ) (gis (some (Vi (tv (0 ≤ x ∧ x < σ.1 9 0)))) σ) ga_nox := by
  refine ga_meth [some (Vr 9), some (Vi x)] rfl rfl (by decide +kernel) (Nat.le_of_ble_eq_true rfl) rfl ?_
  refine ga_iload_n dX9_isNet_0 rfl ?_
  refine ga_if_lt (tgt := 16) dX9_isNet_1 rfl (fun c_1 => ?_) (fun c_1 => ?_)
  · refine ga_iconst dX9_isNet_16 ⟨by decide, by decide⟩ ?_
    refine ga_ret (v := some _) ?_ rfl (by decide) (by decide) ⟨dX9_isNet_17, _, rfl, rfl⟩
    exact ⟨tvf (by omega), rfl⟩
  · refine ga_iload_n dX9_isNet_4 rfl ?_
    refine ga_aload_n dX9_isNet_5 rfl ?_
    refine hg_getI 0 grX9_9 dX9_isNet_6 rfl rfl rfl ?_
    refine ga_icmp_ge (tgt := 16) dX9_isNet_9 rfl (fun c_9 => ?_) (fun c_9 => ?_)
    · refine ga_iconst dX9_isNet_16 ⟨by decide, by decide⟩ ?_
      refine ga_ret (v := some _) ?_ rfl (by decide) (by decide) ⟨dX9_isNet_17, _, rfl, rfl⟩
      exact ⟨tvf (by omega), rfl⟩
    · refine ga_iconst dX9_isNet_12 ⟨by decide, by decide⟩ ?_
      refine ga_goto (tgt := 17) dX9_isNet_13 rfl ?_
      refine ga_ret (v := some _) ?_ rfl (by decide) (by decide) ⟨dX9_isNet_17, _, rfl, rfl⟩
      exact ⟨tvt (by omega), rfl⟩
theorem T_X9_isDevice_9 (x : Int) (σ : ga_S) : ga_Mt 0 0 0 mX9_isDevice [Vr 9, Vi x] (HP σ) (gis (some (Vi (tv (0 ≤ x ∧ x < σ.1 9 3)))) σ) ga_nox := by
  refine ga_meth [some (Vr 9), some (Vi x)] rfl rfl (by decide +kernel) (Nat.le_of_ble_eq_true rfl) rfl ?_
  refine ga_iload_n dX9_isDevice_0 rfl ?_
  refine ga_if_lt (tgt := 16) dX9_isDevice_1 rfl (fun c_1 => ?_) (fun c_1 => ?_)
  · refine ga_iconst dX9_isDevice_16 ⟨by decide, by decide⟩ ?_
    refine ga_ret (v := some _) ?_ rfl (by decide) (by decide) ⟨dX9_isDevice_17, _, rfl, rfl⟩
    exact ⟨tvf (by omega), rfl⟩
  · refine ga_iload_n dX9_isDevice_4 rfl ?_
    refine ga_aload_n dX9_isDevice_5 rfl ?_
    refine hg_getI 3 grX9_23 dX9_isDevice_6 rfl rfl rfl ?_
    refine ga_icmp_ge (tgt := 16) dX9_isDevice_9 rfl (fun c_9 => ?_) (fun c_9 => ?_)
    · refine ga_iconst dX9_isDevice_16 ⟨by decide, by decide⟩ ?_
      refine ga_ret (v := some _) ?_ rfl (by decide) (by decide) ⟨dX9_isDevice_17, _, rfl, rfl⟩
      exact ⟨tvf (by omega), rfl⟩
    · refine ga_iconst dX9_isDevice_12 ⟨by decide, by decide⟩ ?_
      refine ga_goto (tgt := 17) dX9_isDevice_13 rfl ?_
      refine ga_ret (v := some _) ?_ rfl (by decide) (by decide) ⟨dX9_isDevice_17, _, rfl, rfl⟩
      exact ⟨tvt (by omega), rfl⟩
theorem T_X9_addNet_9 (σ : ga_S) (h1 : 0 ≤ σ.1 9 0) (h2 : σ.1 9 0 < 40) : ga_Mt 0 0 0 mX9_addNet [Vr 9] (HP σ) (gis (some (Vi (σ.1 9 0))) (stI σ 9 (ga_up (σ.1 9) 0 (σ.1 9 0 + 1)))) ga_nox := by
  refine ga_meth [some (Vr 9)] rfl rfl (by decide +kernel) (Nat.le_of_ble_eq_true rfl) rfl ?_
  refine ga_aload_n dX9_addNet_0 rfl ?_
  refine ga_dup dX9_addNet_1 rfl ?_
  refine hg_getI 0 grX9_9 dX9_addNet_2 rfl rfl rfl ?_
  refine ga_iconst dX9_addNet_5 ⟨by decide, by decide⟩ ?_
  refine ga_iadd dX9_addNet_6 rfl (⟨by omega, by omega⟩) ?_
  refine hg_putI 0 gfX9_9 dX9_addNet_7 rfl rfl rfl ?_
  have e9 : (stI σ 9 (ga_up (σ.1 9) 0 (σ.1 9 0 + 1))).1 9 0 = σ.1 9 0 + 1 := rfl
  refine ga_aload_n dX9_addNet_10 rfl ?_
  refine hg_getI 0 grX9_9 dX9_addNet_11 rfl rfl rfl ?_
  refine ga_iconst dX9_addNet_14 ⟨by decide, by decide⟩ ?_
  refine ga_isub (z := σ.1 9 0) dX9_addNet_15 (by omega) (⟨by omega, by omega⟩) ?_
  refine ga_ret (v := some _) ?_ rfl (by decide) (by decide) ⟨dX9_addNet_16, _, rfl, rfl⟩
  exact ⟨rfl, rfl⟩
theorem T_X9_addDevice_9 (kd : Int) (z : UInt64) (σ : ga_S) (h1 : 0 ≤ σ.1 9 3) (h2 : σ.1 9 3 < 30) : ga_Mt 0 0 0 mX9_addDevice [Vr 9, Vi kd, Vd z] (HP σ) (gis (some (Vi (σ.1 9 3))) (stI (stD (stI σ 12 (ga_up (σ.1 12) (σ.1 9 3) kd)) 13 (ga_up (σ.2 13) (σ.1 9 3) z)) 9 (ga_up (σ.1 9) 3 (σ.1 9 3 + 1)))) ga_nox := by
  refine ga_meth [some (Vr 9), some (Vi kd), some (Vd z), none] rfl rfl (by decide +kernel) (Nat.le_of_ble_eq_true rfl) rfl ?_
  refine ga_aload_n dX9_addDevice_0 rfl ?_
  refine hg_getR grX9_26 dX9_addDevice_1 rfl rfl ?_
  refine ga_aload_n dX9_addDevice_4 rfl ?_
  refine hg_getI 3 grX9_23 dX9_addDevice_5 rfl rfl rfl ?_
  refine ga_iload_n dX9_addDevice_8 rfl ?_
  refine hg_iast dX9_addDevice_9 rfl (by omega) (by omega) ?_
  have e8 : (stI σ 12 (ga_up (σ.1 12) (σ.1 9 3) kd)).1 9 3 = σ.1 9 3 := rfl
  refine ga_aload_n dX9_addDevice_10 rfl ?_
  refine hg_getR grX9_29 dX9_addDevice_11 rfl rfl ?_
  refine ga_aload_n dX9_addDevice_14 rfl ?_
  refine hg_getI 3 grX9_23 dX9_addDevice_15 rfl rfl rfl ?_
  refine ga_dload_n dX9_addDevice_18 rfl ?_
  refine hg_dast dX9_addDevice_19 rfl (by omega) (by omega) ?_
  have e7 : (stD (stI σ 12 (ga_up (σ.1 12) (σ.1 9 3) kd)) 13 (ga_up ((stI σ 12 (ga_up (σ.1 12) (σ.1 9 3) kd)).2 13) ((stI σ 12 (ga_up (σ.1 12) (σ.1 9 3) kd)).1 9 3) z)).1 9 3 = σ.1 9 3 := rfl
  refine ga_aload_n dX9_addDevice_20 rfl ?_
  refine ga_dup dX9_addDevice_21 rfl ?_
  refine hg_getI 3 grX9_23 dX9_addDevice_22 rfl rfl rfl ?_
  refine ga_iconst dX9_addDevice_25 ⟨by decide, by decide⟩ ?_
  refine ga_iadd dX9_addDevice_26 rfl (⟨by omega, by omega⟩) ?_
  refine hg_putI 3 gfX9_23 dX9_addDevice_27 rfl rfl rfl ?_
  refine ga_aload_n dX9_addDevice_30 rfl ?_
  refine hg_getI 3 grX9_23 dX9_addDevice_31 rfl rfl rfl ?_
  refine ga_iconst dX9_addDevice_34 ⟨by decide, by decide⟩ ?_
  refine ga_isub (z := σ.1 9 3) dX9_addDevice_35 (by show σ.1 9 3 + 1 - 1 = σ.1 9 3; omega) (⟨by omega, by omega⟩) ?_
  refine ga_ret (v := some _) ?_ rfl (by decide) (by decide) ⟨dX9_addDevice_36, _, rfl, rfl⟩
  exact ⟨rfl, rfl⟩
theorem T_X9_netOf_9 (d k : Int) (σ : ga_S) (h1 : 0 ≤ d) (h2 : d < 30) (h3 : 0 ≤ k) (h4 : k < 4) : ga_Mt 0 0 0 mX9_netOf [Vr 9, Vi d, Vi k] (HP σ) (gis (some (Vi (σ.1 15 (d * 4 + k)))) σ) ga_nox := by
  refine ga_meth [some (Vr 9), some (Vi d), some (Vi k)] rfl rfl (by decide +kernel) (Nat.le_of_ble_eq_true rfl) rfl ?_
  refine ga_aload_n dX9_netOf_0 rfl ?_
  refine hg_getR grX9_36 dX9_netOf_1 rfl rfl ?_
  refine ga_iload_n dX9_netOf_4 rfl ?_
  refine ga_iconst dX9_netOf_5 ⟨by decide, by decide⟩ ?_
  refine ga_imul dX9_netOf_6 rfl (⟨by omega, by omega⟩) ?_
  refine ga_iload_n dX9_netOf_7 rfl ?_
  refine ga_iadd dX9_netOf_8 rfl (⟨by omega, by omega⟩) ?_
  refine hg_iald dX9_netOf_9 rfl (by omega) (by omega) ?_
  refine ga_ret (v := some _) ?_ rfl (by decide) (by decide) ⟨dX9_netOf_10, _, rfl, rfl⟩
  exact ⟨rfl, rfl⟩
theorem T_X9_connect_9 (d k n : Int) (σ : ga_S) (h1 : 0 ≤ d) (h2 : d < 30) (h3 : 0 ≤ k) (h4 : k < 4) : ga_Mt 1 0 0 mX9_connect [Vr 9, Vi d, Vi k, Vi n] (HP σ) (gis (some (Vi (tv (σ.1 15 (d * 4 + k) ≠ n)))) (stI σ 15 (ga_up (σ.1 15) (d * 4 + k) n))) ga_nox := by
  refine ga_meth [some (Vr 9), some (Vi d), some (Vi k), some (Vi n), none] rfl rfl (by decide +kernel) (Nat.le_of_ble_eq_true rfl) rfl ?_
  refine ga_aload_n dX9_connect_0 rfl ?_
  refine ga_iload_n dX9_connect_1 rfl ?_
  refine ga_iload_n dX9_connect_2 rfl ?_
  refine hc_V (T_X9_netOf_9 d k σ h1 h2 h3 h4) fX9_netOf rfl kX9_netOf lkX9_45 dX9_connect_3 rfl rfl rfl rfl rfl rfl rfl rfl ?_
  refine ga_iload_n dX9_connect_6 rfl ?_
  refine ga_icmp_eq (tgt := 14) dX9_connect_7 rfl (fun c_7 => ?_) (fun c_7 => ?_)
  · refine ga_iconst dX9_connect_14 ⟨by decide, by decide⟩ ?_
    refine ga_istore (lv2 := [_, _, _, _, _]) dX9_connect_15 (by decide) rfl rfl ?_
    refine ga_aload_n dX9_connect_17 rfl ?_
    refine hg_getR grX9_36 dX9_connect_18 rfl rfl ?_
    refine ga_iload_n dX9_connect_21 rfl ?_
    refine ga_iconst dX9_connect_22 ⟨by decide, by decide⟩ ?_
    refine ga_imul dX9_connect_23 rfl (⟨by omega, by omega⟩) ?_
    refine ga_iload_n dX9_connect_24 rfl ?_
    refine ga_iadd dX9_connect_25 rfl (⟨by omega, by omega⟩) ?_
    refine ga_iload_n dX9_connect_26 rfl ?_
    refine hg_iast dX9_connect_27 rfl (by omega) (by omega) ?_
    refine ga_iload dX9_connect_28 rfl ?_
    refine ga_ret (v := some _) ?_ rfl (by decide) (by decide) ⟨dX9_connect_30, _, rfl, rfl⟩
    exact ⟨tvf (fun z => z c_7), rfl⟩
  · refine ga_iconst dX9_connect_10 ⟨by decide, by decide⟩ ?_
    refine ga_goto (tgt := 15) dX9_connect_11 rfl ?_
    refine ga_istore (lv2 := [_, _, _, _, _]) dX9_connect_15 (by decide) rfl rfl ?_
    refine ga_aload_n dX9_connect_17 rfl ?_
    refine hg_getR grX9_36 dX9_connect_18 rfl rfl ?_
    refine ga_iload_n dX9_connect_21 rfl ?_
    refine ga_iconst dX9_connect_22 ⟨by decide, by decide⟩ ?_
    refine ga_imul dX9_connect_23 rfl (⟨by omega, by omega⟩) ?_
    refine ga_iload_n dX9_connect_24 rfl ?_
    refine ga_iadd dX9_connect_25 rfl (⟨by omega, by omega⟩) ?_
    refine ga_iload_n dX9_connect_26 rfl ?_
    refine hg_iast dX9_connect_27 rfl (by omega) (by omega) ?_
    refine ga_iload dX9_connect_28 rfl ?_
    refine ga_ret (v := some _) ?_ rfl (by decide) (by decide) ⟨dX9_connect_30, _, rfl, rfl⟩
    exact ⟨tvt c_7, rfl⟩
theorem T_X9_isPort_9 (n : Int) (σ : ga_S) (h1 : 0 ≤ n) (h2 : n < 40) : ga_Mt 0 0 0 mX9_isPort [Vr 9, Vi n] (HP σ) (gis (some (Vi (tv (σ.1 10 n ≠ -1)))) σ) ga_nox := by
  refine ga_meth [some (Vr 9), some (Vi n)] rfl rfl (by decide +kernel) (Nat.le_of_ble_eq_true rfl) rfl ?_
  refine ga_aload_n dX9_isPort_0 rfl ?_
  refine hg_getR grX9_15 dX9_isPort_1 rfl rfl ?_
  refine ga_iload_n dX9_isPort_4 rfl ?_
  refine hg_iald dX9_isPort_5 rfl (by omega) (by omega) ?_
  refine ga_iconst dX9_isPort_6 ⟨by decide, by decide⟩ ?_
  refine ga_icmp_eq (tgt := 14) dX9_isPort_7 rfl (fun c_7 => ?_) (fun c_7 => ?_)
  · refine ga_iconst dX9_isPort_14 ⟨by decide, by decide⟩ ?_
    refine ga_ret (v := some _) ?_ rfl (by decide) (by decide) ⟨dX9_isPort_15, _, rfl, rfl⟩
    exact ⟨tvf (fun z => z c_7), rfl⟩
  · refine ga_iconst dX9_isPort_10 ⟨by decide, by decide⟩ ?_
    refine ga_goto (tgt := 15) dX9_isPort_11 rfl ?_
    refine ga_ret (v := some _) ?_ rfl (by decide) (by decide) ⟨dX9_isPort_15, _, rfl, rfl⟩
    exact ⟨tvt c_7, rfl⟩
theorem T_X9_makePort_9 (n x : Int) (σ : ga_S) (h1 : 0 ≤ n) (h2 : n < 40) : ga_Mt 1 0 0 mX9_makePort [Vr 9, Vi n, Vi x] (HP σ) (gis (some (Vi (tv (σ.1 10 n = -1)))) (stI σ 10 (ga_up (σ.1 10) n x))) ga_nox := by
  refine ga_meth [some (Vr 9), some (Vi n), some (Vi x), none] rfl rfl (by decide +kernel) (Nat.le_of_ble_eq_true rfl) rfl ?_
  refine ga_aload_n dX9_makePort_0 rfl ?_
  refine ga_iload_n dX9_makePort_1 rfl ?_
  refine hc_V (T_X9_isPort_9 n σ h1 h2) fX9_isPort rfl kX9_isPort lkX9_49 dX9_makePort_2 rfl rfl rfl rfl rfl rfl rfl rfl ?_
  refine ga_if_ne (tgt := 12) dX9_makePort_5 rfl (fun c_5 => ?_) (fun c_5 => ?_)
  · rw [tv_ne0] at c_5
    refine ga_iconst dX9_makePort_12 ⟨by decide, by decide⟩ ?_
    refine ga_istore_n (lv2 := [_, _, _, _]) dX9_makePort_13 (by decide) rfl rfl ?_
    refine ga_aload_n dX9_makePort_14 rfl ?_
    refine hg_getR grX9_15 dX9_makePort_15 rfl rfl ?_
    refine ga_iload_n dX9_makePort_18 rfl ?_
    refine ga_iload_n dX9_makePort_19 rfl ?_
    refine hg_iast dX9_makePort_20 rfl (by omega) (by omega) ?_
    refine ga_iload_n dX9_makePort_21 rfl ?_
    refine ga_ret (v := some _) ?_ rfl (by decide) (by decide) ⟨dX9_makePort_22, _, rfl, rfl⟩
    exact ⟨tvf c_5, rfl⟩
  · rw [tv_eq0, Classical.not_not] at c_5
    refine ga_iconst dX9_makePort_8 ⟨by decide, by decide⟩ ?_
    refine ga_goto (tgt := 13) dX9_makePort_9 rfl ?_
    refine ga_istore_n (lv2 := [_, _, _, _]) dX9_makePort_13 (by decide) rfl rfl ?_
    refine ga_aload_n dX9_makePort_14 rfl ?_
    refine hg_getR grX9_15 dX9_makePort_15 rfl rfl ?_
    refine ga_iload_n dX9_makePort_18 rfl ?_
    refine ga_iload_n dX9_makePort_19 rfl ?_
    refine hg_iast dX9_makePort_20 rfl (by omega) (by omega) ?_
    refine ga_iload_n dX9_makePort_21 rfl ?_
    refine ga_ret (v := some _) ?_ rfl (by decide) (by decide) ⟨dX9_makePort_22, _, rfl, rfl⟩
    exact ⟨tvt c_5, rfl⟩
theorem T_X9_portNamed_9 (x : Int) (σ : ga_S) (N : Nat) (hN : σ.1 9 0 = N) (hN2 : N ≤ 40) : ga_Mt 1 0 0 mX9_portNamed [Vr 9, Vi x] (HP σ) (gis (some (Vi (firstF (fun n => decide (σ.1 10 n ≠ -1 ∧ σ.1 10 n = x)) N 0))) σ) ga_nox := by
  refine ga_meth [some (Vr 9), some (Vi x), none] rfl rfl (by decide +kernel) (Nat.le_of_ble_eq_true rfl) rfl ?_
  refine ga_iconst dX9_portNamed_0 ⟨by decide, by decide⟩ ?_
  refine ga_istore_n (lv2 := [_, _, _]) dX9_portNamed_1 (by decide) rfl rfl ?_
  refine (ga_loop N (fun i => ∀ r : Int, firstF (fun n => decide (σ.1 10 n ≠ -1 ∧ σ.1 10 n = x)) (N - i) i = r → ga_W 1 0 0 0 0 mX9_portNamed (gis (some (Vi r)) σ) ga_nox 2 [some (Vr 9), some (Vi x), some (Vi (i : Int))] [] (HP σ)) ?_ ?_ 0 (Nat.zero_le _) _ rfl : _)
  · intro r hr
    rw [Nat.sub_self] at hr
    refine ga_iload_n dX9_portNamed_2 rfl ?_
    refine ga_aload_n dX9_portNamed_3 rfl ?_
    refine hg_getI 0 grX9_9 dX9_portNamed_4 rfl rfl rfl ?_
    refine ga_icmp_ge (tgt := 36) dX9_portNamed_7 rfl (fun c_7 => ?_) (fun c_7 => ?_)
    · refine ga_iconst dX9_portNamed_36 ⟨by decide, by decide⟩ ?_
      refine ga_ret (v := some _) ?_ rfl (by decide) (by decide) ⟨dX9_portNamed_37, _, rfl, rfl⟩
      exact ⟨by rw [← hr]; rfl, rfl⟩
    · omega
  · intro i hi k r hr
    rw [show N - i = (N - (i + 1)) + 1 by omega] at hr
    unfold firstF at hr
    refine ga_iload_n dX9_portNamed_2 rfl ?_
    refine ga_aload_n dX9_portNamed_3 rfl ?_
    refine hg_getI 0 grX9_9 dX9_portNamed_4 rfl rfl rfl ?_
    refine ga_icmp_ge (tgt := 36) dX9_portNamed_7 rfl (fun c_7 => ?_) (fun c_7 => ?_)
    · omega
    · refine ga_aload_n dX9_portNamed_10 rfl ?_
      refine ga_iload_n dX9_portNamed_11 rfl ?_
      refine hc_V (T_X9_isPort_9 i σ (by omega) (by omega)) fX9_isPort rfl kX9_isPort lkX9_49 dX9_portNamed_12 rfl rfl rfl rfl rfl rfl rfl rfl ?_
      refine ga_if_eq (tgt := 30) dX9_portNamed_15 rfl (fun c_15 => ?_) (fun c_15 => ?_)
      · rw [tv_eq0] at c_15
        rw [if_neg (by rw [decide_eq_true_iff]; exact fun z => c_15 z.1)] at hr
        refine ga_iinc (z := ((i + 1 : Nat) : Int)) (lv2 := [_, _, _]) dX9_portNamed_30 (by decide) rfl rfl (by omega) (⟨by omega, by omega⟩) rfl ?_
        refine ga_goto (tgt := 2) dX9_portNamed_33 rfl ?_
        exact k r hr
      · rw [tv_ne0] at c_15
        refine ga_aload_n dX9_portNamed_18 rfl ?_
        refine hg_getR grX9_15 dX9_portNamed_19 rfl rfl ?_
        refine ga_iload_n dX9_portNamed_22 rfl ?_
        refine hg_iald dX9_portNamed_23 rfl (by omega) (by omega) ?_
        refine ga_iload_n dX9_portNamed_24 rfl ?_
        refine ga_icmp_ne (tgt := 30) dX9_portNamed_25 rfl (fun c_25 => ?_) (fun c_25 => ?_)
        · rw [if_neg (by rw [decide_eq_true_iff]; exact fun z => c_25 z.2)] at hr
          refine ga_iinc (z := ((i + 1 : Nat) : Int)) (lv2 := [_, _, _]) dX9_portNamed_30 (by decide) rfl rfl (by omega) (⟨by omega, by omega⟩) rfl ?_
          refine ga_goto (tgt := 2) dX9_portNamed_33 rfl ?_
          exact k r hr
        · rw [if_pos (by rw [decide_eq_true_iff]; exact ⟨c_15, c_25⟩)] at hr
          refine ga_iload_n dX9_portNamed_28 rfl ?_
          refine ga_ret (v := some _) ?_ rfl (by decide) (by decide) ⟨dX9_portNamed_29, _, rfl, rfl⟩
          exact ⟨by rw [← hr], rfl⟩
theorem T_X9_presentCount_9 (σ : ga_S) (N : Nat) (hN : σ.1 9 3 = N) (hN2 : N ≤ 30) : ga_Mt 0 0 0 mX9_presentCount [Vr 9] (HP σ) (gis (some (Vi (sz (fun d => tv (σ.1 14 d = 0)) N))) σ) ga_nox := by
  refine ga_meth [some (Vr 9), none, none] rfl rfl (by decide +kernel) (Nat.le_of_ble_eq_true rfl) rfl ?_
  refine ga_iconst dX9_presentCount_0 ⟨by decide, by decide⟩ ?_
  refine ga_istore_n (lv2 := [_, _, _]) dX9_presentCount_1 (by decide) rfl rfl ?_
  refine ga_iconst dX9_presentCount_2 ⟨by decide, by decide⟩ ?_
  refine ga_istore_n (lv2 := [_, _, _]) dX9_presentCount_3 (by decide) rfl rfl ?_
  refine (ga_loop N (fun i => ga_W 0 0 0 0 0 mX9_presentCount (gis (some (Vi (sz (fun d => tv (σ.1 14 d = 0)) N))) σ) ga_nox 4 [some (Vr 9), some (Vi (sz (fun d => tv (σ.1 14 d = 0)) i)), some (Vi (i : Int))] [] (HP σ)) ?_ ?_ 0 (Nat.zero_le _) : _)
  · refine ga_iload_n dX9_presentCount_4 rfl ?_
    refine ga_aload_n dX9_presentCount_5 rfl ?_
    refine hg_getI 3 grX9_23 dX9_presentCount_6 rfl rfl rfl ?_
    refine ga_icmp_ge (tgt := 30) dX9_presentCount_9 rfl (fun c_9 => ?_) (fun c_9 => ?_)
    · refine ga_iload_n dX9_presentCount_30 rfl ?_
      refine ga_ret (v := some _) ?_ rfl (by decide) (by decide) ⟨dX9_presentCount_31, _, rfl, rfl⟩
      exact ⟨rfl, rfl⟩
    · omega
  · intro i hi k
    have hb := sz_b (f := fun d => tv (σ.1 14 d = 0)) (n := i) (fun _ => tv_le)
    simp only [sz_s] at k
    refine ga_iload_n dX9_presentCount_4 rfl ?_
    refine ga_aload_n dX9_presentCount_5 rfl ?_
    refine hg_getI 3 grX9_23 dX9_presentCount_6 rfl rfl rfl ?_
    refine ga_icmp_ge (tgt := 30) dX9_presentCount_9 rfl (fun c_9 => ?_) (fun c_9 => ?_)
    · omega
    · refine ga_aload_n dX9_presentCount_12 rfl ?_
      refine hg_getR grX9_33 dX9_presentCount_13 rfl rfl ?_
      refine ga_iload_n dX9_presentCount_16 rfl ?_
      refine hg_zald dX9_presentCount_17 rfl (by omega) (by omega) ?_
      refine ga_if_ne (tgt := 24) dX9_presentCount_18 rfl (fun c_18 => ?_) (fun c_18 => ?_)
      · rw [tvz c_18, Int.add_zero] at k
        refine ga_iinc (z := ((i + 1 : Nat) : Int)) (lv2 := [_, _, _]) dX9_presentCount_24 (by decide) rfl rfl (by omega) (⟨by omega, by omega⟩) rfl ?_
        refine ga_goto (tgt := 4) dX9_presentCount_27 rfl ?_
        exact k
      · rw [tv1 c_18] at k
        refine ga_iinc (lv2 := [_, _, _]) dX9_presentCount_21 (by decide) rfl rfl rfl (⟨by omega, by omega⟩) rfl ?_
        refine ga_iinc (z := ((i + 1 : Nat) : Int)) (lv2 := [_, _, _]) dX9_presentCount_24 (by decide) rfl rfl (by omega) (⟨by omega, by omega⟩) rfl ?_
        refine ga_goto (tgt := 4) dX9_presentCount_27 rfl ?_
        exact k
theorem T_X9_presentOfKind_9 (kd : Int) (σ : ga_S) (N : Nat) (hN : σ.1 9 3 = N) (hN2 : N ≤ 30) : ga_Mt 0 0 0 mX9_presentOfKind [Vr 9, Vi kd] (HP σ) (gis (some (Vi (sz (fun d => tv (σ.1 14 d = 0 ∧ σ.1 12 d = kd)) N))) σ) ga_nox := by
  refine ga_meth [some (Vr 9), some (Vi kd), none, none] rfl rfl (by decide +kernel) (Nat.le_of_ble_eq_true rfl) rfl ?_
  refine ga_iconst dX9_presentOfKind_0 ⟨by decide, by decide⟩ ?_
  refine ga_istore_n (lv2 := [_, _, _, _]) dX9_presentOfKind_1 (by decide) rfl rfl ?_
  refine ga_iconst dX9_presentOfKind_2 ⟨by decide, by decide⟩ ?_
  refine ga_istore_n (lv2 := [_, _, _, _]) dX9_presentOfKind_3 (by decide) rfl rfl ?_
  refine (ga_loop N (fun i => ga_W 0 0 0 0 0 mX9_presentOfKind (gis (some (Vi (sz (fun d => tv (σ.1 14 d = 0 ∧ σ.1 12 d = kd)) N))) σ) ga_nox 4 [some (Vr 9), some (Vi kd), some (Vi (sz (fun d => tv (σ.1 14 d = 0 ∧ σ.1 12 d = kd)) i)), some (Vi (i : Int))] [] (HP σ)) ?_ ?_ 0 (Nat.zero_le _) : _)
  · refine ga_iload_n dX9_presentOfKind_4 rfl ?_
    refine ga_aload_n dX9_presentOfKind_5 rfl ?_
    refine hg_getI 3 grX9_23 dX9_presentOfKind_6 rfl rfl rfl ?_
    refine ga_icmp_ge (tgt := 40) dX9_presentOfKind_9 rfl (fun c_9 => ?_) (fun c_9 => ?_)
    · refine ga_iload_n dX9_presentOfKind_40 rfl ?_
      refine ga_ret (v := some _) ?_ rfl (by decide) (by decide) ⟨dX9_presentOfKind_41, _, rfl, rfl⟩
      exact ⟨rfl, rfl⟩
    · omega
  · intro i hi k
    have hb := sz_b (f := fun d => tv (σ.1 14 d = 0 ∧ σ.1 12 d = kd)) (n := i) (fun _ => tv_le)
    simp only [sz_s] at k
    refine ga_iload_n dX9_presentOfKind_4 rfl ?_
    refine ga_aload_n dX9_presentOfKind_5 rfl ?_
    refine hg_getI 3 grX9_23 dX9_presentOfKind_6 rfl rfl rfl ?_
    refine ga_icmp_ge (tgt := 40) dX9_presentOfKind_9 rfl (fun c_9 => ?_) (fun c_9 => ?_)
    · omega
    · refine ga_aload_n dX9_presentOfKind_12 rfl ?_
      refine hg_getR grX9_33 dX9_presentOfKind_13 rfl rfl ?_
      refine ga_iload_n dX9_presentOfKind_16 rfl ?_
      refine hg_zald dX9_presentOfKind_17 rfl (by omega) (by omega) ?_
      refine ga_if_ne (tgt := 34) dX9_presentOfKind_18 rfl (fun c_18 => ?_) (fun c_18 => ?_)
      · rw [tvz (fun z => c_18 z.1), Int.add_zero] at k
        refine ga_iinc (z := ((i + 1 : Nat) : Int)) (lv2 := [_, _, _, _]) dX9_presentOfKind_34 (by decide) rfl rfl (by omega) (⟨by omega, by omega⟩) rfl ?_
        refine ga_goto (tgt := 4) dX9_presentOfKind_37 rfl ?_
        exact k
      · refine ga_aload_n dX9_presentOfKind_21 rfl ?_
        refine hg_getR grX9_26 dX9_presentOfKind_22 rfl rfl ?_
        refine ga_iload_n dX9_presentOfKind_25 rfl ?_
        refine hg_iald dX9_presentOfKind_26 rfl (by omega) (by omega) ?_
        refine ga_iload_n dX9_presentOfKind_27 rfl ?_
        refine ga_icmp_ne (tgt := 34) dX9_presentOfKind_28 rfl (fun c_28 => ?_) (fun c_28 => ?_)
        · rw [tvz (fun z => c_28 z.2), Int.add_zero] at k
          refine ga_iinc (z := ((i + 1 : Nat) : Int)) (lv2 := [_, _, _, _]) dX9_presentOfKind_34 (by decide) rfl rfl (by omega) (⟨by omega, by omega⟩) rfl ?_
          refine ga_goto (tgt := 4) dX9_presentOfKind_37 rfl ?_
          exact k
        · rw [tv1 ⟨c_18, c_28⟩] at k
          refine ga_iinc (lv2 := [_, _, _, _]) dX9_presentOfKind_31 (by decide) rfl rfl rfl (⟨by omega, by omega⟩) rfl ?_
          refine ga_iinc (z := ((i + 1 : Nat) : Int)) (lv2 := [_, _, _, _]) dX9_presentOfKind_34 (by decide) rfl rfl (by omega) (⟨by omega, by omega⟩) rfl ?_
          refine ga_goto (tgt := 4) dX9_presentOfKind_37 rfl ?_
          exact k
theorem T_X9_usedCount_9 (σ : ga_S) (N : Nat) (hN : σ.1 9 0 = N) (hN2 : N ≤ 40) : ga_Mt 0 0 0 mX9_usedCount [Vr 9] (HP σ) (gis (some (Vi (sz (fun d => tv (σ.1 11 d ≠ 0)) N))) σ) ga_nox := by
  refine ga_meth [some (Vr 9), none, none] rfl rfl (by decide +kernel) (Nat.le_of_ble_eq_true rfl) rfl ?_
  refine ga_iconst dX9_usedCount_0 ⟨by decide, by decide⟩ ?_
  refine ga_istore_n (lv2 := [_, _, _]) dX9_usedCount_1 (by decide) rfl rfl ?_
  refine ga_iconst dX9_usedCount_2 ⟨by decide, by decide⟩ ?_
  refine ga_istore_n (lv2 := [_, _, _]) dX9_usedCount_3 (by decide) rfl rfl ?_
  refine (ga_loop N (fun i => ga_W 0 0 0 0 0 mX9_usedCount (gis (some (Vi (sz (fun d => tv (σ.1 11 d ≠ 0)) N))) σ) ga_nox 4 [some (Vr 9), some (Vi (sz (fun d => tv (σ.1 11 d ≠ 0)) i)), some (Vi (i : Int))] [] (HP σ)) ?_ ?_ 0 (Nat.zero_le _) : _)
  · refine ga_iload_n dX9_usedCount_4 rfl ?_
    refine ga_aload_n dX9_usedCount_5 rfl ?_
    refine hg_getI 0 grX9_9 dX9_usedCount_6 rfl rfl rfl ?_
    refine ga_icmp_ge (tgt := 30) dX9_usedCount_9 rfl (fun c_9 => ?_) (fun c_9 => ?_)
    · refine ga_iload_n dX9_usedCount_30 rfl ?_
      refine ga_ret (v := some _) ?_ rfl (by decide) (by decide) ⟨dX9_usedCount_31, _, rfl, rfl⟩
      exact ⟨rfl, rfl⟩
    · omega
  · intro i hi k
    have hb := sz_b (f := fun d => tv (σ.1 11 d ≠ 0)) (n := i) (fun _ => tv_le)
    simp only [sz_s] at k
    refine ga_iload_n dX9_usedCount_4 rfl ?_
    refine ga_aload_n dX9_usedCount_5 rfl ?_
    refine hg_getI 0 grX9_9 dX9_usedCount_6 rfl rfl rfl ?_
    refine ga_icmp_ge (tgt := 30) dX9_usedCount_9 rfl (fun c_9 => ?_) (fun c_9 => ?_)
    · omega
    · refine ga_aload_n dX9_usedCount_12 rfl ?_
      refine hg_getR grX9_19 dX9_usedCount_13 rfl rfl ?_
      refine ga_iload_n dX9_usedCount_16 rfl ?_
      refine hg_zald dX9_usedCount_17 rfl (by omega) (by omega) ?_
      refine ga_if_eq (tgt := 24) dX9_usedCount_18 rfl (fun c_18 => ?_) (fun c_18 => ?_)
      · rw [tvz (fun z => z c_18), Int.add_zero] at k
        refine ga_iinc (z := ((i + 1 : Nat) : Int)) (lv2 := [_, _, _]) dX9_usedCount_24 (by decide) rfl rfl (by omega) (⟨by omega, by omega⟩) rfl ?_
        refine ga_goto (tgt := 4) dX9_usedCount_27 rfl ?_
        exact k
      · rw [tv1 c_18] at k
        refine ga_iinc (lv2 := [_, _, _]) dX9_usedCount_21 (by decide) rfl rfl rfl (⟨by omega, by omega⟩) rfl ?_
        refine ga_iinc (z := ((i + 1 : Nat) : Int)) (lv2 := [_, _, _]) dX9_usedCount_24 (by decide) rfl rfl (by omega) (⟨by omega, by omega⟩) rfl ?_
        refine ga_goto (tgt := 4) dX9_usedCount_27 rfl ?_
        exact k
theorem T_X9_nextPortName_9 (a : Int) (σ : ga_S) (N : Nat) (hN : σ.1 9 0 = N) (hN2 : N ≤ 40) : ga_Mt 0 0 0 mX9_nextPortName [Vr 9, Vi a] (HP σ) (gis (some (Vi (nameF (σ.1 10) a N))) σ) ga_nox := by
  refine ga_meth [some (Vr 9), some (Vi a), none, none, none] rfl rfl (by decide +kernel) (Nat.le_of_ble_eq_true rfl) rfl ?_
  refine ga_iconst dX9_nextPortName_0 ⟨by decide, by decide⟩ ?_
  refine ga_istore_n (lv2 := [_, _, _, _, _]) dX9_nextPortName_1 (by decide) rfl rfl ?_
  refine ga_iconst dX9_nextPortName_2 ⟨by decide, by decide⟩ ?_
  refine ga_istore_n (lv2 := [_, _, _, _, _]) dX9_nextPortName_3 (by decide) rfl rfl ?_
  refine (ga_loop N (fun i => ∀ z, ga_W 0 0 0 0 0 mX9_nextPortName (gis (some (Vi (nameF (σ.1 10) a N))) σ) ga_nox 4 [some (Vr 9), some (Vi a), some (Vi (nameF (σ.1 10) a i)), some (Vi (i : Int)), z] [] (HP σ)) ?_ ?_ 0 (Nat.zero_le _) _ : _)
  · intro z
    refine ga_iload_n dX9_nextPortName_4 rfl ?_
    refine ga_aload_n dX9_nextPortName_5 rfl ?_
    refine hg_getI 0 grX9_9 dX9_nextPortName_6 rfl rfl rfl ?_
    refine ga_icmp_ge (tgt := 46) dX9_nextPortName_9 rfl (fun c_9 => ?_) (fun c_9 => ?_)
    · refine ga_iload_n dX9_nextPortName_46 rfl ?_
      refine ga_ret (v := some _) ?_ rfl (by decide) (by decide) ⟨dX9_nextPortName_47, _, rfl, rfl⟩
      exact ⟨rfl, rfl⟩
    · omega
  · intro i hi k z
    simp only [nameF, nameStep] at k
    refine ga_iload_n dX9_nextPortName_4 rfl ?_
    refine ga_aload_n dX9_nextPortName_5 rfl ?_
    refine hg_getI 0 grX9_9 dX9_nextPortName_6 rfl rfl rfl ?_
    refine ga_icmp_ge (tgt := 46) dX9_nextPortName_9 rfl (fun c_9 => ?_) (fun c_9 => ?_)
    · omega
    · refine ga_aload_n dX9_nextPortName_12 rfl ?_
      refine hg_getR grX9_15 dX9_nextPortName_13 rfl rfl ?_
      refine ga_iload_n dX9_nextPortName_16 rfl ?_
      refine hg_iald dX9_nextPortName_17 rfl (by omega) (by omega) ?_
      refine ga_istore (lv2 := [_, _, _, _, _]) dX9_nextPortName_18 (by decide) rfl rfl ?_
      refine ga_iload dX9_nextPortName_20 rfl ?_
      refine ga_iload_n dX9_nextPortName_22 rfl ?_
      refine ga_icmp_le (tgt := 40) dX9_nextPortName_23 rfl (fun c_23 => ?_) (fun c_23 => ?_)
      · rw [if_neg (by omega)] at k
        refine ga_iinc (z := ((i + 1 : Nat) : Int)) (lv2 := [_, _, _, _, _]) dX9_nextPortName_40 (by decide) rfl rfl (by omega) (⟨by omega, by omega⟩) rfl ?_
        refine ga_goto (tgt := 4) dX9_nextPortName_43 rfl ?_
        exact k _
      · refine ga_iload_n dX9_nextPortName_26 rfl ?_
        refine ga_iconst dX9_nextPortName_27 ⟨by decide, by decide⟩ ?_
        refine ga_icmp_eq (tgt := 37) dX9_nextPortName_28 rfl (fun c_28 => ?_) (fun c_28 => ?_)
        · rw [if_pos (by omega)] at k
          refine ga_iload dX9_nextPortName_37 rfl ?_
          refine ga_istore_n (lv2 := [_, _, _, _, _]) dX9_nextPortName_39 (by decide) rfl rfl ?_
          refine ga_iinc (z := ((i + 1 : Nat) : Int)) (lv2 := [_, _, _, _, _]) dX9_nextPortName_40 (by decide) rfl rfl (by omega) (⟨by omega, by omega⟩) rfl ?_
          refine ga_goto (tgt := 4) dX9_nextPortName_43 rfl ?_
          exact k _
        · refine ga_iload dX9_nextPortName_31 rfl ?_
          refine ga_iload_n dX9_nextPortName_33 rfl ?_
          refine ga_icmp_ge (tgt := 40) dX9_nextPortName_34 rfl (fun c_34 => ?_) (fun c_34 => ?_)
          · rw [if_neg (by omega)] at k
            refine ga_iinc (z := ((i + 1 : Nat) : Int)) (lv2 := [_, _, _, _, _]) dX9_nextPortName_40 (by decide) rfl rfl (by omega) (⟨by omega, by omega⟩) rfl ?_
            refine ga_goto (tgt := 4) dX9_nextPortName_43 rfl ?_
            exact k _
          · rw [if_pos (by omega)] at k
            refine ga_iload dX9_nextPortName_37 rfl ?_
            refine ga_istore_n (lv2 := [_, _, _, _, _]) dX9_nextPortName_39 (by decide) rfl rfl ?_
            refine ga_iinc (z := ((i + 1 : Nat) : Int)) (lv2 := [_, _, _, _, _]) dX9_nextPortName_40 (by decide) rfl rfl (by omega) (⟨by omega, by omega⟩) rfl ?_
            refine ga_goto (tgt := 4) dX9_nextPortName_43 rfl ?_
            exact k _
theorem T_X9_markUsedNets_9 (σ : ga_S) (N D : Nat) (hN : σ.1 9 0 = N) (hN2 : N ≤ 40) (hD : σ.1 9 3 = D) (hD2 : D ≤ 30) (hpin : ∀ j : Int, 0 ≤ j → j < 4 * D → -1 ≤ σ.1 15 j ∧ σ.1 15 j < N) : ga_Mt 1 0 0 mX9_markUsedNets [Vr 9] (HP σ) (gis none (stI σ 11 (usedF N (σ.1 10) (σ.1 14) (σ.1 15) (σ.1 11) (4 * D)))) ga_nox := by
  refine ga_meth [some (Vr 9), none, none, none] rfl rfl (by decide +kernel) (Nat.le_of_ble_eq_true rfl) rfl ?_
  refine ga_iconst dX9_markUsedNets_0 ⟨by decide, by decide⟩ ?_
  refine ga_istore_n (lv2 := [_, _, _, _]) dX9_markUsedNets_1 (by decide) rfl rfl ?_
  have e0 : usedF ((0 : Nat) : Int) (σ.1 10) (σ.1 14) (σ.1 15) (σ.1 11) 0 = σ.1 11 := by funext j; unfold usedF; rw [if_neg (by omega)]
  have L1 := ga_loop N (fun i => ga_W 1 0 0 0 0 mX9_markUsedNets (gis none (stI σ 11 (usedF N (σ.1 10) (σ.1 14) (σ.1 15) (σ.1 11) (4 * D)))) ga_nox 2 [some (Vr 9), some (Vi (i : Int)), none, none] [] (HP (stI σ 11 (usedF i (σ.1 10) (σ.1 14) (σ.1 15) (σ.1 11) 0)))) ?_ ?_ 0 (Nat.zero_le _)
  · rw [e0, stI_self] at L1
    exact L1
  · have hN9 : (stI σ 11 (usedF N (σ.1 10) (σ.1 14) (σ.1 15) (σ.1 11) 0)).1 9 0 = N := hN
    refine ga_iload_n dX9_markUsedNets_2 rfl ?_
    refine ga_aload_n dX9_markUsedNets_3 rfl ?_
    refine hg_getI 0 grX9_9 dX9_markUsedNets_4 rfl rfl rfl ?_
    refine ga_icmp_ge (tgt := 27) dX9_markUsedNets_7 rfl (fun c_7 => ?_) (fun c_7 => ?_)
    · refine ga_iconst dX9_markUsedNets_27 ⟨by decide, by decide⟩ ?_
      refine ga_istore_n (lv2 := [_, _, _, _]) dX9_markUsedNets_28 (by decide) rfl rfl ?_
      refine (ga_loop D (fun i => ∀ y z, ga_W 1 0 0 0 0 mX9_markUsedNets (gis none (stI σ 11 (usedF N (σ.1 10) (σ.1 14) (σ.1 15) (σ.1 11) (4 * D)))) ga_nox 29 [some (Vr 9), some (Vi (i : Int)), y, z] [] (HP (stI σ 11 (usedF N (σ.1 10) (σ.1 14) (σ.1 15) (σ.1 11) (4 * i))))) ?_ ?_ 0 (Nat.zero_le _) _ _ : _)
      · intro y z
        have hD9 : (stI σ 11 (usedF N (σ.1 10) (σ.1 14) (σ.1 15) (σ.1 11) (4 * D))).1 9 3 = D := hD
        refine ga_iload_n dX9_markUsedNets_29 rfl ?_
        refine ga_aload_n dX9_markUsedNets_30 rfl ?_
        refine hg_getI 3 grX9_23 dX9_markUsedNets_31 rfl rfl rfl ?_
        refine ga_icmp_ge (tgt := 84) dX9_markUsedNets_34 rfl (fun c_34 => ?_) (fun c_34 => ?_)
        · refine ga_ret (v := none) ?_ rfl (by decide) (by decide) ⟨dX9_markUsedNets_84, rfl⟩
          exact ⟨rfl, rfl⟩
        · omega
      · intro i hi k y z
        have hD9 : (stI σ 11 (usedF N (σ.1 10) (σ.1 14) (σ.1 15) (σ.1 11) (4 * i))).1 9 3 = D := hD
        refine ga_iload_n dX9_markUsedNets_29 rfl ?_
        refine ga_aload_n dX9_markUsedNets_30 rfl ?_
        refine hg_getI 3 grX9_23 dX9_markUsedNets_31 rfl rfl rfl ?_
        refine ga_icmp_ge (tgt := 84) dX9_markUsedNets_34 rfl (fun c_34 => ?_) (fun c_34 => ?_)
        · omega
        · refine ga_iconst dX9_markUsedNets_37 ⟨by decide, by decide⟩ ?_
          refine ga_istore_n (lv2 := [_, _, _, _]) dX9_markUsedNets_38 (by decide) rfl rfl ?_
          refine (ga_loop 4 (fun q => ∀ z, ga_W 1 0 0 0 0 mX9_markUsedNets (gis none (stI σ 11 (usedF N (σ.1 10) (σ.1 14) (σ.1 15) (σ.1 11) (4 * D)))) ga_nox 39 [some (Vr 9), some (Vi (i : Int)), some (Vi (q : Int)), z] [] (HP (stI σ 11 (usedF N (σ.1 10) (σ.1 14) (σ.1 15) (σ.1 11) (4 * i + q))))) ?_ ?_ 0 (Nat.zero_le _) _ : _)
          · intro z
            rw [show (4 * (i : Int) + ((4 : Nat) : Int)) = 4 * ((i + 1 : Nat) : Int) by omega]
            refine ga_iload_n dX9_markUsedNets_39 rfl ?_
            refine ga_iconst dX9_markUsedNets_40 ⟨by decide, by decide⟩ ?_
            refine ga_icmp_ge (tgt := 78) dX9_markUsedNets_41 rfl (fun c_41 => ?_) (fun c_41 => ?_)
            · refine ga_iinc (z := ((i + 1 : Nat) : Int)) (lv2 := [_, _, _, _]) dX9_markUsedNets_78 (by decide) rfl rfl (by omega) (⟨by omega, by omega⟩) rfl ?_
              refine ga_goto (tgt := 29) dX9_markUsedNets_81 rfl ?_
              exact k _ _
            · omega
          · intro q hq k2 z
            have hpq := hpin (4 * i + q) (by omega) (by omega)
            refine ga_iload_n dX9_markUsedNets_39 rfl ?_
            refine ga_iconst dX9_markUsedNets_40 ⟨by decide, by decide⟩ ?_
            refine ga_icmp_ge (tgt := 78) dX9_markUsedNets_41 rfl (fun c_41 => ?_) (fun c_41 => ?_)
            · omega
            · refine ga_aload_n dX9_markUsedNets_44 rfl ?_
              refine hg_getR grX9_33 dX9_markUsedNets_45 rfl rfl ?_
              refine ga_iload_n dX9_markUsedNets_48 rfl ?_
              refine hg_zald dX9_markUsedNets_49 rfl (by omega) (by omega) ?_
              refine ga_if_ne (tgt := 78) dX9_markUsedNets_50 rfl (fun c_50 => ?_) (fun c_50 => ?_)
              · have c9 : ¬ σ.1 14 (i : Int) = 0 := c_50
                refine ga_iinc (z := ((i + 1 : Nat) : Int)) (lv2 := [_, _, _, _]) dX9_markUsedNets_78 (by decide) rfl rfl (by omega) (⟨by omega, by omega⟩) rfl ?_
                refine ga_goto (tgt := 29) dX9_markUsedNets_81 rfl ?_
                have e3 : usedF N (σ.1 10) (σ.1 14) (σ.1 15) (σ.1 11) (4 * (i : Int) + q) = usedF N (σ.1 10) (σ.1 14) (σ.1 15) (σ.1 11) (4 * ((i + 1 : Nat) : Int)) := (usedF_same (by omega) (fun z h1 h2 h3 h4 => by rw [show z / 4 = (i : Int) by omega] at h4; exact absurd h4 c9)).symm
                rw [e3]
                exact k _ _
              · have c9 : σ.1 14 (i : Int) = 0 := c_50
                refine ga_aload_n dX9_markUsedNets_53 rfl ?_
                refine ga_iload_n dX9_markUsedNets_54 rfl ?_
                refine ga_iload_n dX9_markUsedNets_55 rfl ?_
                refine hc_V (T_X9_netOf_9 i q _ (by omega) (by omega) (by omega) (by omega)) fX9_netOf rfl kX9_netOf lkX9_45 dX9_markUsedNets_56 rfl rfl rfl rfl rfl rfl rfl rfl ?_
                refine ga_istore_n (lv2 := [_, _, _, _]) dX9_markUsedNets_59 (by decide) rfl rfl ?_
                refine ga_iload_n dX9_markUsedNets_60 rfl ?_
                refine ga_iconst dX9_markUsedNets_61 ⟨by decide, by decide⟩ ?_
                refine ga_icmp_eq (tgt := 72) dX9_markUsedNets_62 rfl (fun c_62 => ?_) (fun c_62 => ?_)
                · have c8 : σ.1 15 ((i : Int) * 4 + q) = -1 := c_62
                  rw [show (i : Int) * 4 + q = 4 * i + q by omega] at c8
                  refine ga_iinc (z := ((q + 1 : Nat) : Int)) (lv2 := [_, _, _, _]) dX9_markUsedNets_72 (by decide) rfl rfl (by omega) (⟨by omega, by omega⟩) rfl ?_
                  refine ga_goto (tgt := 39) dX9_markUsedNets_75 rfl ?_
                  have e3 : usedF N (σ.1 10) (σ.1 14) (σ.1 15) (σ.1 11) (4 * (i : Int) + q) = usedF N (σ.1 10) (σ.1 14) (σ.1 15) (σ.1 11) (4 * (i : Int) + ((q + 1 : Nat) : Int)) := (usedF_same (by omega) (fun z h1 h2 h3 h4 => by rw [show z = 4 * (i : Int) + q by omega]; exact c8)).symm
                  rw [e3]
                  exact k2 _
                · have c8 : ¬ σ.1 15 ((i : Int) * 4 + q) = -1 := c_62
                  have e7 : (stI σ 11 (usedF N (σ.1 10) (σ.1 14) (σ.1 15) (σ.1 11) (4 * i + q))).1 15 ((i : Int) * 4 + q) = σ.1 15 (4 * i + q) := by rw [show (i : Int) * 4 + q = 4 * i + q by omega]; rfl
                  rw [show (i : Int) * 4 + q = 4 * i + q by omega] at c8
                  refine ga_aload_n dX9_markUsedNets_65 rfl ?_
                  refine hg_getR grX9_19 dX9_markUsedNets_66 rfl rfl ?_
                  refine ga_iload_n dX9_markUsedNets_69 rfl ?_
                  refine ga_iconst dX9_markUsedNets_70 ⟨by decide, by decide⟩ ?_
                  refine hg_zast dX9_markUsedNets_71 rfl (by rw [e7]; omega) (by rw [e7]; omega) (by omega) ?_
                  refine ga_iinc (z := ((q + 1 : Nat) : Int)) (lv2 := [_, _, _, _]) dX9_markUsedNets_72 (by decide) rfl rfl (by omega) (⟨by omega, by omega⟩) rfl ?_
                  refine ga_goto (tgt := 39) dX9_markUsedNets_75 rfl ?_
                  have e3 : ga_up (usedF N (σ.1 10) (σ.1 14) (σ.1 15) (σ.1 11) (4 * (i : Int) + q)) (σ.1 15 (4 * i + q)) 1 = usedF N (σ.1 10) (σ.1 14) (σ.1 15) (σ.1 11) (4 * (i : Int) + ((q + 1 : Nat) : Int)) := (usedF_put (by omega) (by rw [show (4 * (i : Int) + q) / 4 = i by omega]; exact c9) (by omega)).trans (by rw [show 4 * (i : Int) + q + 1 = 4 * (i : Int) + ((q + 1 : Nat) : Int) by omega])
                  rw [e7, stI_st, stI_at, e3]
                  exact k2 _
    · omega
  · intro i hi k
    have hN9 : (stI σ 11 (usedF i (σ.1 10) (σ.1 14) (σ.1 15) (σ.1 11) 0)).1 9 0 = N := hN
    have e1 : ga_up (usedF i (σ.1 10) (σ.1 14) (σ.1 15) (σ.1 11) 0) (i : Int) (tv (σ.1 10 (i : Int) ≠ -1)) = usedF ((i + 1 : Nat) : Int) (σ.1 10) (σ.1 14) (σ.1 15) (σ.1 11) 0 := by
      funext j
      unfold ga_up usedF
      by_cases hj : j = (i : Int)
      · rw [if_pos hj, if_pos (by omega), hj]
        apply tv_congr
        constructor
        · exact Or.inl
        · rintro (q | ⟨z, h1, h2, h3, h4⟩)
          · exact q
          · omega
      · rw [if_neg hj]
        by_cases h2 : 0 ≤ j ∧ j < (i : Int)
        · rw [if_pos h2, if_pos (by omega)]
        · rw [if_neg h2, if_neg (by omega)]
    refine ga_iload_n dX9_markUsedNets_2 rfl ?_
    refine ga_aload_n dX9_markUsedNets_3 rfl ?_
    refine hg_getI 0 grX9_9 dX9_markUsedNets_4 rfl rfl rfl ?_
    refine ga_icmp_ge (tgt := 27) dX9_markUsedNets_7 rfl (fun c_7 => ?_) (fun c_7 => ?_)
    · omega
    · refine ga_aload_n dX9_markUsedNets_10 rfl ?_
      refine hg_getR grX9_19 dX9_markUsedNets_11 rfl rfl ?_
      refine ga_iload_n dX9_markUsedNets_14 rfl ?_
      refine ga_aload_n dX9_markUsedNets_15 rfl ?_
      refine ga_iload_n dX9_markUsedNets_16 rfl ?_
      refine hc_V (T_X9_isPort_9 i _ (by omega) (by omega)) fX9_isPort rfl kX9_isPort lkX9_49 dX9_markUsedNets_17 rfl rfl rfl rfl rfl rfl rfl rfl ?_
      refine hg_zast dX9_markUsedNets_20 rfl (by omega) (by omega) (tv01) ?_
      refine ga_iinc (z := ((i + 1 : Nat) : Int)) (lv2 := [_, _, _, _]) dX9_markUsedNets_21 (by decide) rfl rfl (by omega) (⟨by omega, by omega⟩) rfl ?_
      refine ga_goto (tgt := 2) dX9_markUsedNets_24 rfl ?_
      rw [stI_st, stI_at]
      refine ga_eqh (congrArg (fun f => HP (stI σ 11 f)) e1) ?_
      exact k
