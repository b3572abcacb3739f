-- Search: mates, the change of sorts and its undoing
theorem sz_zero : ∀ n : Nat, sz (fun _ => 0) n = 0
  | 0 => rfl
  | n + 1 => by rw [sz_s, sz_zero n]; rfl
theorem sz_add (f g : Int → Int) : ∀ n : Nat, sz (fun i => f i + g i) n = sz f n + sz g n
  | 0 => rfl
  | n + 1 => by rw [sz_s, sz_s, sz_s, sz_add f g n]; omega
theorem sz_len {P : Int → Prop} {n n2 : Nat} (h : n ≤ n2) : sz (fun i => tv (P i)) n ≤ sz (fun i => tv (P i)) n2 := by
  induction n2 with
  | zero => rw [show n = 0 by omega]; exact Int.le_refl _
  | succ k ih =>
    rcases Nat.lt_or_ge n (k + 1) with q | q
    · have := ih (by omega)
      have := (tv_le (p := P k)).1
      rw [sz_s]; omega
    · rw [show n = k + 1 by omega]; exact Int.le_refl _
theorem sz_one {A : Prop} {a : Int} : ∀ n : Nat, sz (fun j => tv (A ∧ a = j)) n ≤ tv A ∧ ((a < 0 ∨ n ≤ a) → sz (fun j => tv (A ∧ a = j)) n = 0)
  | 0 => ⟨(tv_le (p := A)).1, fun _ => rfl⟩
  | n + 1 => by
    obtain ⟨h1, h2⟩ := sz_one (A := A) (a := a) n
    rw [sz_s]
    by_cases q : a = n
    · rw [h2 (by omega), tv_congr (show (A ∧ a = n) ↔ A from ⟨fun z => z.1, fun z => ⟨z, q⟩⟩)]
      exact ⟨by omega, fun z => by omega⟩
    · rw [tvz (p := A ∧ a = n) (fun z => q z.2)]
      exact ⟨by omega, fun z => by rw [h2 (by omega)]; rfl⟩
theorem sz_img {P Q : Int → Prop} {m : Int → Int} {c : Nat} : ∀ {n : Nat}, (∀ j : Int, 0 ≤ j → j < c → Q j → ∃ i : Int, 0 ≤ i ∧ i < n ∧ P i ∧ m i = j) → sz (fun j => tv (Q j)) c ≤ sz (fun i => tv (P i)) n := by
  intro n h
  have key : ∀ n : Nat, sz (fun j => tv (∃ i : Int, 0 ≤ i ∧ i < n ∧ P i ∧ m i = j)) c ≤ sz (fun i => tv (P i)) n := by
    intro n
    induction n with
    | zero =>
      rw [sz_congr (g := fun _ => 0) (fun j hj => tvz (fun ⟨i, a, b, _⟩ => by omega)), sz_zero]
      exact Int.le_refl _
    | succ n ih =>
      rw [sz_s]
      have s1 := (sz_one (A := P n) (a := m n) c).1
      have s2 := sz_mono (f := fun j => tv (∃ i : Int, 0 ≤ i ∧ i < ((n + 1 : Nat) : Int) ∧ P i ∧ m i = j)) (g := fun j => tv (∃ i : Int, 0 ≤ i ∧ i < n ∧ P i ∧ m i = j) + tv (P n ∧ m n = j)) (n := c) (fun j hj => by
        by_cases q : P n ∧ m n = j
        · have := (tv_le (p := ∃ i : Int, 0 ≤ i ∧ i < n ∧ P i ∧ m i = (j : Int))).1
          have := (tv_le (p := ∃ i : Int, 0 ≤ i ∧ i < ((n + 1 : Nat) : Int) ∧ P i ∧ m i = (j : Int))).2
          show tv _ ≤ tv _ + tv _
          rw [tv1 q]; omega
        · show tv _ ≤ tv _ + tv _
          rw [tvz q, Int.add_zero]
          refine tv_mono (fun ⟨i, a, b, d, e⟩ => ⟨i, a, ?_, d, e⟩)
          rcases Int.lt_or_le i n with z | z
          · exact z
          · exact absurd (show P n ∧ m n = j by rw [show (n : Int) = i by omega]; exact ⟨d, e⟩) q)
      rw [sz_add] at s2
      omega
  have := key n
  have h2 := sz_mono (f := fun j => tv (Q j)) (g := fun j => tv (∃ i : Int, 0 ≤ i ∧ i < n ∧ P i ∧ m i = j)) (n := c) (fun j hj => tv_mono (h j (by omega) (by omega)))
  omega
theorem sz_not {P : Int → Prop} (n : Nat) : sz (fun i => tv (P i)) n + sz (fun i => tv (¬ P i)) n = n := by
  induction n with
  | zero => rfl
  | succ n ih =>
    rw [sz_s, sz_s]
    have : tv (P n) + tv (¬ P n) = 1 := by
      by_cases q : P n
      · rw [tv1 q, tvz (fun z => z q)]; rfl
      · rw [tvz q, tv1 q]; rfl
    omega
/-- m takes the places before c one to one to places before c -/
def inj (m : Int → Int) (c : Nat) : Prop := (∀ i : Int, 0 ≤ i → i < c → 0 ≤ m i ∧ m i < c) ∧ ∀ i j : Int, 0 ≤ i → i < c → 0 ≤ j → j < c → m i = m j → i = j
theorem inj_sur {m : Int → Int} {c : Nat} (h : inj m c) {j : Int} (h1 : 0 ≤ j) (h2 : j < c) : ∃ i : Int, 0 ≤ i ∧ i < c ∧ m i = j := by
  refine Classical.byContradiction (fun q => ?_)
  have a : sz (fun i => tv (∃ i2 : Int, 0 ≤ i2 ∧ i2 < c ∧ m i2 = i)) c < c := by
    have s := sz_not (P := fun i => ∃ i2 : Int, 0 ≤ i2 ∧ i2 < c ∧ m i2 = i) c
    have g := sz_ge1 (P := fun i => ¬ ∃ i2 : Int, 0 ≤ i2 ∧ i2 < c ∧ m i2 = i) (n := c) (i := j.toNat) (by omega) (by rw [Int.toNat_of_nonneg h1]; exact q)
    omega
  have b : sz (fun i => tv (0 ≤ i)) c ≤ sz (fun i => tv (∃ i2 : Int, 0 ≤ i2 ∧ i2 < c ∧ m i2 = i)) c := by
    refine sz_img (m := fun i => lstF (fun i2 => m i2 = i) c) (fun i i1 i2 _ => ?_)
    refine ⟨m i, (h.1 i i1 i2).1, (h.1 i i1 i2).2, ⟨i, i1, i2, rfl⟩, ?_⟩
    rcases lstF_is (fun i2 => m i2 = m i) c with ⟨q1, q2⟩ | ⟨q1, q2, q3, q4⟩
    · exact absurd rfl (q2 i i1 i2)
    · exact h.2 _ _ q1 q2 i1 i2 q3
  have d : sz (fun i => tv (0 ≤ i)) c = c := by
    have : ∀ n : Nat, sz (fun i => tv (0 ≤ i)) n = n := by
      intro n
      induction n with
      | zero => rfl
      | succ n ih => rw [sz_s, ih, tv1 (by omega)]; omega
    exact this c
  omega
theorem inj_sz {m : Int → Int} {c : Nat} {P Q : Int → Prop} (h : inj m c) (hq : ∀ i : Int, 0 ≤ i → i < c → (P i ↔ Q (m i))) : sz (fun i => tv (P i)) c = sz (fun j => tv (Q j)) c := by
  have a : sz (fun j => tv (Q j)) c ≤ sz (fun i => tv (P i)) c := sz_img (m := m) (fun j j1 j2 j3 => by
    obtain ⟨i, i1, i2, i3⟩ := inj_sur h j1 j2
    exact ⟨i, i1, i2, (hq i i1 i2).mpr (by rw [i3]; exact j3), i3⟩)
  have b : sz (fun j => tv (¬ Q j)) c ≤ sz (fun i => tv (¬ P i)) c := sz_img (m := m) (fun j j1 j2 j3 => by
    obtain ⟨i, i1, i2, i3⟩ := inj_sur h j1 j2
    exact ⟨i, i1, i2, fun z => j3 (by rw [← i3]; exact (hq i i1 i2).mp z), i3⟩)
  have s1 := sz_not (P := P) c
  have s2 := sz_not (P := Q) c
  omega
def MT (m k1 k2 : Int → Int) (c2 i : Nat) (mt : Int) : Prop := 0 ≤ mt ∧ mt < 16 ∧ (∀ j : Int, 0 ≤ j → j < 4 → (bitI mt j = 0 ↔ ∀ i2 : Int, 0 ≤ i2 → i2 < i → m i2 ≠ j)) ∧ (∀ i2 : Int, 0 ≤ i2 → i2 < i → 0 ≤ m i2 ∧ m i2 < c2 ∧ k2 (m i2) = k1 i2) ∧ ∀ i2 j : Int, 0 ≤ i2 → i2 < i → 0 ≤ j → j < i → m i2 = m j → i2 = j
theorem MT_s {m k1 k2 : Int → Int} {c2 i : Nat} {mt r : Int} (h : MT m k1 k2 c2 i mt) (hc : c2 ≤ 4) (r1 : 0 ≤ r) (r2 : r < c2) (r3 : k2 r = k1 i) (r4 : bitI mt r = 0) : MT (ga_up m i r) k1 k2 c2 (i + 1) (mt + pw2 r) := by
  obtain ⟨h1, h2, h3, h4, h5⟩ := h
  have s := sh_o r1 (by omega) h1 h2 r4
  have no := (h3 r r1 (by omega)).mp r4
  refine ⟨s.2.1, s.2.2.1, fun j j1 j2 => ?_, fun i2 a b => ?_, fun i2 j a b d e => ?_⟩
  · rw [s.2.2.2 j j1 j2, h3 j j1 j2]
    constructor
    · rintro ⟨q1, q2⟩ i2 a b
      by_cases q : i2 = i
      · rw [q, ga_up_at]; exact fun z => q2 z.symm
      · rw [ga_up_ne _ _ q]; exact q1 i2 a (by omega)
    · intro q
      refine ⟨fun i2 a b => ?_, fun z => ?_⟩
      · have := q i2 a (by omega)
        rw [ga_up_ne _ _ (by omega)] at this
        exact this
      · have := q i (by omega) (by omega)
        rw [ga_up_at] at this
        exact this z.symm
  · by_cases q : i2 = i
    · rw [q, ga_up_at]; exact ⟨r1, r2, r3⟩
    · rw [ga_up_ne _ _ q]; exact h4 i2 a (by omega)
  · by_cases q : i2 = i
    · by_cases q2 : j = i
      · intro _; rw [q, q2]
      · rw [q, ga_up_at, ga_up_ne _ _ q2]
        exact fun z => absurd z.symm (no j d (by omega))
    · by_cases q2 : j = i
      · rw [q2, ga_up_at, ga_up_ne _ _ q]
        exact fun z => absurd z (no i2 a (by omega))
      · rw [ga_up_ne _ _ q, ga_up_ne _ _ q2]
        exact h5 i2 j a (by omega) d (by omega)
theorem T_X8_findMates (σ : ga_S) (c1 c2 : Nat) (h1 : σ.1 42 1 = c1) (h2 : σ.1 46 1 = c2) (h3 : c1 ≤ 4) (h4 : c2 ≤ 4) : ga_Mt 1 0 0 mX8_findMates [Vr 38] (HP σ) (fun v h => ∃ τ, exc [50] σ τ ∧ h = HP τ ∧ ((c1 = c2 ∧ inj (τ.1 50) c1 ∧ (∀ i : Int, 0 ≤ i → i < c1 → σ.1 49 (τ.1 50 i) = σ.1 45 i) ∧ v = some (Vi 1)) ∨ ((c1 = c2 → ∃ K : Int, sz (fun j => tv (σ.1 49 j = K)) c2 < sz (fun i => tv (σ.1 45 i = K)) c1) ∧ v = some (Vi 0)))) ga_nox := by
  refine ga_meth [some (Vr 38), none, none, none] rfl rfl (by decide +kernel) (Nat.le_of_ble_eq_true rfl) rfl ?_
  refine ga_aload_n dX8_findMates_0 rfl ?_
  refine hg_getR grX8_29 dX8_findMates_1 rfl rfl ?_
  refine hg_getI 1 grX8_166 dX8_findMates_4 rfl rfl rfl ?_
  refine ga_aload_n dX8_findMates_7 rfl ?_
  refine hg_getR grX8_33 dX8_findMates_8 rfl rfl ?_
  refine hg_getI 1 grX8_166 dX8_findMates_11 rfl rfl rfl ?_
  refine ga_icmp_eq (tgt := 19) dX8_findMates_14 rfl (fun c_14 => ?_) (fun c_14 => ?_)
  rotate_left
  · have c9 : ¬ c1 = c2 := fun z => c_14 (by rw [h1, h2, z])
    refine ga_iconst dX8_findMates_17 ⟨by decide, by decide⟩ ?_
    refine ga_ret (v := some _) ?_ rfl (by decide) (by decide) ⟨dX8_findMates_18, _, rfl, rfl⟩
    exact ⟨σ, exc_r, rfl, Or.inr ⟨fun z => absurd z c9, rfl⟩⟩
  · have c9 : c1 = c2 := by have := h1.symm.trans (c_14.trans h2); omega
    refine ga_iconst dX8_findMates_19 ⟨by decide, by decide⟩ ?_
    refine ga_istore_n (lv2 := [_, _, _, _]) dX8_findMates_20 (by decide) rfl rfl ?_
    refine ga_iconst dX8_findMates_21 ⟨by decide, by decide⟩ ?_
    refine ga_istore_n (lv2 := [_, _, _, _]) dX8_findMates_22 (by decide) rfl rfl ?_
    refine (ga_loop c1 (fun i => ∀ τ mt z, exc [50] σ τ → MT (τ.1 50) (σ.1 45) (σ.1 49) c2 i mt → ga_W 1 0 0 0 0 mX8_findMates (fun v h => ∃ τ, exc [50] σ τ ∧ h = HP τ ∧ ((c1 = c2 ∧ inj (τ.1 50) c1 ∧ (∀ i : Int, 0 ≤ i → i < c1 → σ.1 49 (τ.1 50 i) = σ.1 45 i) ∧ v = some (Vi 1)) ∨ ((c1 = c2 → ∃ K : Int, sz (fun j => tv (σ.1 49 j = K)) c2 < sz (fun i => tv (σ.1 45 i = K)) c1) ∧ v = some (Vi 0)))) ga_nox 23 [some (Vr 38), some (Vi mt), some (Vi (i : Int)), z] [] (HP τ)) ?_ ?_ 0 (Nat.zero_le _) σ 0 none exc_r ⟨by decide, by decide, fun j a b => ⟨fun _ i2 a b => by omega, fun _ => bit_0 a b⟩, fun i2 a b => by omega, fun i2 j a b => by omega⟩ : _)
    · intro τ mt z hx hm
      have e1 : τ.1 42 1 = c1 := by rw [hx.1 42 (by decide)]; exact h1
      refine ga_iload_n dX8_findMates_23 rfl ?_
      refine ga_aload_n dX8_findMates_24 rfl ?_
      refine hg_getR grX8_29 dX8_findMates_25 rfl rfl ?_
      refine hg_getI 1 grX8_166 dX8_findMates_28 rfl rfl rfl ?_
      refine ga_icmp_ge (tgt := 78) dX8_findMates_31 rfl (fun c_31 => ?_) (fun c_31 => ?_)
      · refine ga_iconst dX8_findMates_78 ⟨by decide, by decide⟩ ?_
        refine ga_ret (v := some _) ?_ rfl (by decide) (by decide) ⟨dX8_findMates_79, _, rfl, rfl⟩
        exact ⟨τ, hx, rfl, Or.inl ⟨c9, ⟨fun i a b => by have := hm.2.2.2.1 i a b; omega, hm.2.2.2.2⟩, fun i a b => (hm.2.2.2.1 i a b).2.2, rfl⟩⟩
      · omega
    · intro i hi k τ mt z hx hm
      have e1 : τ.1 42 1 = c1 := by rw [hx.1 42 (by decide)]; exact h1
      have e2 : τ.1 46 1 = c2 := by rw [hx.1 46 (by decide)]; exact h2
      have e3 := hx.1 45 (by decide)
      have e4 := hx.1 49 (by decide)
      refine ga_iload_n dX8_findMates_23 rfl ?_
      refine ga_aload_n dX8_findMates_24 rfl ?_
      refine hg_getR grX8_29 dX8_findMates_25 rfl rfl ?_
      refine hg_getI 1 grX8_166 dX8_findMates_28 rfl rfl rfl ?_
      refine ga_icmp_ge (tgt := 78) dX8_findMates_31 rfl (fun c_31 => ?_) (fun c_31 => ?_)
      · omega
      · refine ga_aload_n dX8_findMates_34 rfl ?_
        refine hg_getR grX8_33 dX8_findMates_35 rfl rfl ?_
        refine ga_aload_n dX8_findMates_38 rfl ?_
        refine hg_getR grX8_29 dX8_findMates_39 rfl rfl ?_
        refine hg_getR grX8_169 dX8_findMates_42 rfl rfl ?_
        refine ga_iload_n dX8_findMates_45 rfl ?_
        refine hg_iald dX8_findMates_46 rfl (by omega) (by omega) ?_
        refine ga_iload_n dX8_findMates_47 rfl ?_
        refine hc_V (T_X6_placeWith_46 _ mt τ c2 hm.1 hm.2.1 e2 h4) fX6_placeWith rfl kX6_placeWith lkX8_172 dX8_findMates_48 rfl rfl rfl rfl rfl rfl rfl rfl ?_
        rw [e3, e4]
        rcases lstF_is (fun j => σ.1 49 j = σ.1 45 (i : Int) ∧ bitI mt j = 0) c2 with ⟨q1, q2⟩ | ⟨q1, q2, q3, q4⟩
        · rw [q1]
          refine ga_istore_n (lv2 := [_, _, _, _]) dX8_findMates_51 (by decide) rfl rfl ?_
          refine ga_iload_n dX8_findMates_52 rfl ?_
          refine ga_iconst dX8_findMates_53 ⟨by decide, by decide⟩ ?_
          refine ga_icmp_ne (tgt := 59) dX8_findMates_54 rfl (fun c_54 => ?_) (fun c_54 => ?_)
          · exact absurd rfl c_54
          · refine ga_iconst dX8_findMates_57 ⟨by decide, by decide⟩ ?_
            refine ga_ret (v := some _) ?_ rfl (by decide) (by decide) ⟨dX8_findMates_58, _, rfl, rfl⟩
            refine ⟨τ, hx, rfl, Or.inr ⟨fun _ => ⟨σ.1 45 (i : Int), ?_⟩, rfl⟩⟩
            have s1 : sz (fun j => tv (σ.1 49 j = σ.1 45 (i : Int))) c2 ≤ sz (fun i2 => tv (σ.1 45 i2 = σ.1 45 (i : Int))) i := by
              refine sz_img (m := τ.1 50) (fun j j1 j2 j3 => ?_)
              have nb : ¬ bitI mt j = 0 := fun z => q2 j j1 j2 ⟨j3, z⟩
              refine Classical.byContradiction (fun q => nb ((hm.2.2.1 j j1 (by omega)).mpr (fun i2 a b z => q ⟨i2, a, b, ?_, z⟩)))
              rw [← (hm.2.2.2.1 i2 a b).2.2, z, j3]
            have s2 := sz_len (P := fun i2 => σ.1 45 i2 = σ.1 45 (i : Int)) (n := i + 1) (n2 := c1) (by omega)
            rw [sz_s, tv1 rfl] at s2
            omega
        · revert q1 q2 q3
          generalize lstF (fun j => σ.1 49 j = σ.1 45 (i : Int) ∧ bitI mt j = 0) c2 = r
          intro q1 q2 q3
          have so := sh_o q1 (by omega) hm.1 hm.2.1 q3.2
          have pb := pw2_c r
          refine ga_istore_n (lv2 := [_, _, _, _]) dX8_findMates_51 (by decide) rfl rfl ?_
          refine ga_iload_n dX8_findMates_52 rfl ?_
          refine ga_iconst dX8_findMates_53 ⟨by decide, by decide⟩ ?_
          refine ga_icmp_ne (tgt := 59) dX8_findMates_54 rfl (fun c_54 => ?_) (fun c_54 => ?_)
          · refine ga_aload_n dX8_findMates_59 rfl ?_
            refine hg_getR grX8_36 dX8_findMates_60 rfl rfl ?_
            refine ga_iload_n dX8_findMates_63 rfl ?_
            refine ga_iload_n dX8_findMates_64 rfl ?_
            refine hg_iast dX8_findMates_65 rfl (by omega) (by omega) ?_
            refine ga_iload_n dX8_findMates_66 rfl ?_
            refine ga_iconst dX8_findMates_67 ⟨by decide, by decide⟩ ?_
            refine ga_iload_n dX8_findMates_68 rfl ?_
            refine ga_ishl (z := pw2 r) dX8_findMates_69 (sh_2 q1 (by omega)) (⟨by omega, by omega⟩) ?_
            refine ga_ior (z := mt + pw2 r) dX8_findMates_70 (so.1) (⟨by omega, by omega⟩) ?_
            refine ga_istore_n (lv2 := [_, _, _, _]) dX8_findMates_71 (by decide) rfl rfl ?_
            refine ga_iinc (z := ((i + 1 : Nat) : Int)) (lv2 := [_, _, _, _]) dX8_findMates_72 (by decide) rfl rfl (by omega) (⟨by omega, by omega⟩) rfl ?_
            refine ga_goto (tgt := 23) dX8_findMates_75 rfl ?_
            exact k _ _ _ (exc_st hx (by decide)) (MT_s hm h4 q1 q2 q3.1 q3.2)
          · omega
