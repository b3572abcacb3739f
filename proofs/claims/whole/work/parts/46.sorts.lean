-- NetSorts
def pw8 (g : Int) : Int := if g = 0 then 1 else if g = 1 then 8 else if g = 2 then 64 else 512
def pw2 (g : Int) : Int := if g = 0 then 1 else if g = 1 then 2 else if g = 2 then 4 else 8
def bitI (m i : Int) : Int := m / pw2 i % 2
theorem pw2_c (g : Int) : pw2 g = 1 ∨ pw2 g = 2 ∨ pw2 g = 4 ∨ pw2 g = 8 := by unfold pw2; split <;> (try split) <;> (try split) <;> omega
theorem pw8_b (g : Int) : 1 ≤ pw8 g ∧ pw8 g ≤ 512 := by unfold pw8; split <;> (try split) <;> (try split) <;> omega
theorem sh_12 {x : Int} (h1 : 0 ≤ x) (h2 : x < 200) : Int32.ofInt x <<< (Int32.ofInt 12 &&& 31) = Int32.ofInt (x * 4096) := by
  have key : ∀ n : Fin 200, Int32.ofInt (n.val : Int) <<< (Int32.ofInt 12 &&& 31) = Int32.ofInt ((n.val : Int) * 4096) := by decide +kernel
  have := key ⟨x.toNat, by omega⟩
  rw [show ((⟨x.toNat, by omega⟩ : Fin 200).val : Int) = x from Int.toNat_of_nonneg h1] at this
  exact this
theorem sh_8 {x : Int} (h1 : 0 ≤ x) (h2 : x < 4) : Int32.ofInt 1 <<< (Int32.ofInt (3 * x) &&& 31) = Int32.ofInt (pw8 x) := by
  rcases (show x = 0 ∨ x = 1 ∨ x = 2 ∨ x = 3 by omega) with q | q | q | q <;> subst q <;> decide +kernel
theorem sh_2 {x : Int} (h1 : 0 ≤ x) (h2 : x < 4) : Int32.ofInt 1 <<< (Int32.ofInt x &&& 31) = Int32.ofInt (pw2 x) := by
  rcases (show x = 0 ∨ x = 1 ∨ x = 2 ∨ x = 3 by omega) with q | q | q | q <;> subst q <;> decide +kernel
theorem sh_r {m x : Int} (h1 : 0 ≤ x) (h2 : x < 4) (h3 : 0 ≤ m) (h4 : m < 16) : Int32.ofInt m >>> (Int32.ofInt x &&& 31) = Int32.ofInt (m / pw2 x) := by
  have key : ∀ (n : Fin 16) (k : Fin 4), Int32.ofInt (n.val : Int) >>> (Int32.ofInt (k.val : Int) &&& 31) = Int32.ofInt ((n.val : Int) / pw2 k.val) := by decide +kernel
  have := key ⟨m.toNat, by omega⟩ ⟨x.toNat, by omega⟩
  rw [show ((⟨m.toNat, by omega⟩ : Fin 16).val : Int) = m from Int.toNat_of_nonneg h3, show ((⟨x.toNat, by omega⟩ : Fin 4).val : Int) = x from Int.toNat_of_nonneg h1] at this
  exact this
theorem sh_a {m : Int} (h3 : 0 ≤ m) (h4 : m < 16) : Int32.ofInt m &&& Int32.ofInt 1 = Int32.ofInt (m % 2) := by
  have key : ∀ (n : Fin 16), Int32.ofInt (n.val : Int) &&& Int32.ofInt 1 = Int32.ofInt ((n.val : Int) % 2) := by decide +kernel
  have := key ⟨m.toNat, by omega⟩
  rw [show ((⟨m.toNat, by omega⟩ : Fin 16).val : Int) = m from Int.toNat_of_nonneg h3] at this
  exact this
theorem sh_o {m x : Int} (h1 : 0 ≤ x) (h2 : x < 4) (h3 : 0 ≤ m) (h4 : m < 16) (h : bitI m x = 0) : (Int32.ofInt m ||| Int32.ofInt (pw2 x) = Int32.ofInt (m + pw2 x)) ∧ 0 ≤ m + pw2 x ∧ m + pw2 x < 16 ∧ ∀ j : Int, 0 ≤ j → j < 4 → (bitI (m + pw2 x) j = 0 ↔ bitI m j = 0 ∧ j ≠ x) := by
  have key : ∀ (n : Fin 16) (k : Fin 4), bitI n.val k.val = 0 → (Int32.ofInt (n.val : Int) ||| Int32.ofInt (pw2 k.val) = Int32.ofInt ((n.val : Int) + pw2 k.val)) ∧ 0 ≤ (n.val : Int) + pw2 k.val ∧ (n.val : Int) + pw2 k.val < 16 ∧ ∀ j : Fin 4, (bitI ((n.val : Int) + pw2 k.val) j.val = 0 ↔ bitI n.val j.val = 0 ∧ (j.val : Int) ≠ k.val) := by decide +kernel
  have := key ⟨m.toNat, by omega⟩ ⟨x.toNat, by omega⟩
  rw [show ((⟨m.toNat, by omega⟩ : Fin 16).val : Int) = m from Int.toNat_of_nonneg h3, show ((⟨x.toNat, by omega⟩ : Fin 4).val : Int) = x from Int.toNat_of_nonneg h1] at this
  obtain ⟨a, b, c, d⟩ := this h
  refine ⟨a, b, c, fun j j1 j2 => ?_⟩
  have := d ⟨j.toNat, by omega⟩
  rw [show ((⟨j.toNat, by omega⟩ : Fin 4).val : Int) = j from Int.toNat_of_nonneg j1] at this
  exact this
theorem bit_0 {j : Int} (h1 : 0 ≤ j) (h2 : j < 4) : bitI 0 j = 0 := by
  rcases (show j = 0 ∨ j = 1 ∨ j = 2 ∨ j = 3 by omega) with q | q | q | q <;> subst q <;> decide
/-- the nets of the pins before e, listed, with their keys -/
def LK (srt pin g nets keys : Int → Int) (c e : Nat) : Prop := c ≤ e ∧ (∀ i : Int, 0 ≤ i → i < c → nets i ≠ -1 ∧ ∃ k : Int, 0 ≤ k ∧ k < e ∧ pin k = nets i) ∧ (∀ i j : Int, 0 ≤ i → i < c → 0 ≤ j → j < c → nets i = nets j → i = j) ∧ (∀ k : Int, 0 ≤ k → k < e → pin k ≠ -1 → ∃ i : Int, 0 ≤ i ∧ i < c ∧ nets i = pin k) ∧ (∀ i : Int, 0 ≤ i → i < c → keys i = srt (nets i) * 4096 + sz (fun k => tv (pin k = nets i) * pw8 (g k)) e)
theorem LK_0 {srt pin g nets keys : Int → Int} : LK srt pin g nets keys 0 0 := ⟨Nat.le_refl _, fun i h1 h2 => absurd h2 (by omega), fun i j h1 h2 => absurd h2 (by omega), fun k h1 h2 => absurd h2 (by omega), fun i h1 h2 => absurd h2 (by omega)⟩
theorem LK_no {srt pin g nets keys : Int → Int} {c e : Nat} (h : LK srt pin g nets keys c e) (hp : pin e = -1) : LK srt pin g nets keys c (e + 1) := by
  obtain ⟨h0, h1, h2, h3, h4⟩ := h
  refine ⟨by omega, fun i a b => ?_, h2, fun k a b d => ?_, fun i a b => ?_⟩
  · obtain ⟨q, k, k1, k2, k3⟩ := h1 i a b
    exact ⟨q, k, k1, by omega, k3⟩
  · exact h3 k a (by
      rcases Int.lt_or_le k e with z | z
      · exact z
      · exact absurd (show pin k = -1 by rw [show k = e by omega]; exact hp) d) d
  · rw [sz_s, tvz (fun z => (h1 i a b).1 (by rw [← z]; exact hp)), Int.zero_mul, Int.add_zero]
    exact h4 i a b
theorem LK_old {srt pin g nets keys : Int → Int} {c e : Nat} (h : LK srt pin g nets keys c e) {r : Int} (r1 : 0 ≤ r) (r2 : r < c) (hr : nets r = pin e) (hp : pin e ≠ -1) : LK srt pin g nets (ga_up keys r (keys r + pw8 (g e))) c (e + 1) := by
  obtain ⟨h0, h1, h2, h3, h4⟩ := h
  refine ⟨by omega, fun i a b => ?_, h2, fun k a b d => ?_, fun i a b => ?_⟩
  · obtain ⟨q, k, k1, k2, k3⟩ := h1 i a b
    exact ⟨q, k, k1, by omega, k3⟩
  · rcases Int.lt_or_le k e with z | z
    · exact h3 k a z d
    · exact ⟨r, r1, r2, by rw [show k = e by omega]; exact hr⟩
  · rw [sz_s]
    by_cases q : i = r
    · rw [q, ga_up_at, h4 r r1 r2, tv1 hr.symm, Int.one_mul, Int.add_assoc]
    · rw [ga_up_ne _ _ q, tvz (fun z => q (h2 i r a b r1 r2 (by rw [hr, ← z]))), Int.zero_mul, Int.add_zero]
      exact h4 i a b
theorem LK_new {srt pin g nets keys : Int → Int} {c e : Nat} (h : LK srt pin g nets keys c e) (hp : pin e ≠ -1) (hno : ∀ i : Int, 0 ≤ i → i < c → nets i ≠ pin e) : LK srt pin g (ga_up nets c (pin e)) (ga_up (ga_up keys c (srt (pin e) * 4096)) c (srt (pin e) * 4096 + pw8 (g e))) (c + 1) (e + 1) := by
  obtain ⟨h0, h1, h2, h3, h4⟩ := h
  refine ⟨by omega, fun i a b => ?_, fun i j a b d f => ?_, fun k a b d => ?_, fun i a b => ?_⟩
  · by_cases q : i = c
    · rw [q, ga_up_at]
      exact ⟨hp, e, by omega, by omega, rfl⟩
    · rw [ga_up_ne _ _ q]
      obtain ⟨q, k, k1, k2, k3⟩ := h1 i a (by omega)
      exact ⟨q, k, k1, by omega, k3⟩
  · by_cases q : i = c
    · by_cases q2 : j = c
      · intro _; rw [q, q2]
      · rw [q, ga_up_at, ga_up_ne _ _ q2]
        exact fun z => absurd z.symm (hno j d (by omega))
    · by_cases q2 : j = c
      · rw [q2, ga_up_at, ga_up_ne _ _ q]
        exact fun z => absurd z (hno i a (by omega))
      · rw [ga_up_ne _ _ q, ga_up_ne _ _ q2]
        exact h2 i j a (by omega) d (by omega)
  · rcases Int.lt_or_le k e with z | z
    · obtain ⟨i, i1, i2, i3⟩ := h3 k a z d
      exact ⟨i, i1, by omega, by rw [ga_up_ne _ _ (by omega)]; exact i3⟩
    · exact ⟨c, by omega, by omega, by rw [ga_up_at, show k = e by omega]⟩
  · rw [sz_s]
    by_cases q : i = c
    · rw [q, ga_up_at, ga_up_at, tv1 rfl, Int.one_mul]
      have e0 : sz (fun k => tv (pin k = pin e) * pw8 (g k)) e = sz (fun _ => 0) e := sz_congr (fun k hk => by
        show tv (pin k = pin e) * pw8 (g k) = 0
        rw [tvz (fun z => ?_), Int.zero_mul]
        obtain ⟨i, i1, i2, i3⟩ := h3 k (by omega) (by omega) (by rw [z]; exact hp)
        exact hno i i1 i2 (by rw [i3, z]))
      have e1 : ∀ n : Nat, sz (fun _ => 0) n = 0 := by
        intro n
        induction n with
        | zero => rfl
        | succ n ih => rw [sz_s, ih]; rfl
      rw [e0, e1, Int.zero_add]
    · rw [ga_up_ne _ _ q, ga_up_ne _ _ q, ga_up_ne _ _ q, tvz (fun z => hno i a (by omega) z.symm), Int.zero_mul, Int.add_zero]
      exact h4 i a (by omega)
theorem LK_sum {pin g : Int → Int} {n : Int} : ∀ e : Nat, 0 ≤ sz (fun k => tv (pin k = n) * pw8 (g k)) e ∧ sz (fun k => tv (pin k = n) * pw8 (g k)) e ≤ 512 * e
  | 0 => ⟨Int.le_refl _, Int.le_refl _⟩
  | e + 1 => by
    have a := LK_sum (pin := pin) (g := g) (n := n) e
    have b := pw8_b (g e)
    rw [sz_s]
    rcases tv01 (p := pin e = n) with q | q <;> rw [q] <;> omega
theorem T_X6_placeOf_42 (n : Int) (σ : ga_S) (c : Nat) (h1 : 0 ≤ n) (h2 : n < 40) (hc : σ.1 42 1 = c) (hc2 : c ≤ 4) (hc3 : (∀ i : Int, 0 ≤ i → i < c → σ.1 44 i ≠ n) → c < 4) (hs : 0 ≤ σ.1 43 n ∧ σ.1 43 n < 200) : ga_Mt 0 0 0 mX6_placeOf [Vr 42, Vi n] (HP σ) (fun v h => (∃ i : Int, 0 ≤ i ∧ i < c ∧ σ.1 44 i = n ∧ v = some (Vi i) ∧ h = HP σ) ∨ ((∀ i : Int, 0 ≤ i → i < c → σ.1 44 i ≠ n) ∧ v = some (Vi c) ∧ h = HP (stI (stI (stI σ 44 (ga_up (σ.1 44) c n)) 45 (ga_up (σ.1 45) c (σ.1 43 n * 4096))) 42 (ga_up (σ.1 42) 1 (c + 1))))) ga_nox := by
  refine ga_meth [some (Vr 42), some (Vi n), none] rfl rfl (by decide +kernel) (Nat.le_of_ble_eq_true rfl) rfl ?_
  refine ga_iconst dX6_placeOf_0 ⟨by decide, by decide⟩ ?_
  refine ga_istore_n (lv2 := [_, _, _]) dX6_placeOf_1 (by decide) rfl rfl ?_
  refine (ga_loop c (fun i => (∀ j : Int, 0 ≤ j → j < i → σ.1 44 j ≠ n) → ga_W 0 0 0 0 0 mX6_placeOf (fun v h => (∃ i : Int, 0 ≤ i ∧ i < c ∧ σ.1 44 i = n ∧ v = some (Vi i) ∧ h = HP σ) ∨ ((∀ i : Int, 0 ≤ i → i < c → σ.1 44 i ≠ n) ∧ v = some (Vi c) ∧ h = HP (stI (stI (stI σ 44 (ga_up (σ.1 44) c n)) 45 (ga_up (σ.1 45) c (σ.1 43 n * 4096))) 42 (ga_up (σ.1 42) 1 (c + 1))))) ga_nox 2 [some (Vr 42), some (Vi n), some (Vi (i : Int))] [] (HP σ)) ?_ ?_ 0 (Nat.zero_le _) (fun j a b => absurd b (by omega)) : _)
  · intro hno
    have hc4 := hc3 hno
    refine ga_iload_n dX6_placeOf_2 rfl ?_
    refine ga_aload_n dX6_placeOf_3 rfl ?_
    refine hg_getI 1 grX6_15 dX6_placeOf_4 rfl rfl rfl ?_
    refine ga_icmp_ge (tgt := 28) dX6_placeOf_7 rfl (fun c_7 => ?_) (fun c_7 => ?_)
    · refine ga_aload_n dX6_placeOf_28 rfl ?_
      refine hg_getI 1 grX6_15 dX6_placeOf_29 rfl rfl rfl ?_
      rw [hc]
      refine ga_istore_n (lv2 := [_, _, _]) dX6_placeOf_32 (by decide) rfl rfl ?_
      refine ga_aload_n dX6_placeOf_33 rfl ?_
      refine hg_getR grX6_19 dX6_placeOf_34 rfl rfl ?_
      refine ga_iload_n dX6_placeOf_37 rfl ?_
      refine ga_iload_n dX6_placeOf_38 rfl ?_
      refine hg_iast dX6_placeOf_39 rfl (by omega) (by omega) ?_
      refine ga_aload_n dX6_placeOf_40 rfl ?_
      refine hg_getR grX6_22 dX6_placeOf_41 rfl rfl ?_
      refine ga_iload_n dX6_placeOf_44 rfl ?_
      refine ga_aload_n dX6_placeOf_45 rfl ?_
      refine hg_getR grX6_9 dX6_placeOf_46 rfl rfl ?_
      refine ga_iload_n dX6_placeOf_49 rfl ?_
      refine hg_iald dX6_placeOf_50 rfl (by omega) (by omega) ?_
      refine ga_bipush dX6_placeOf_51 ⟨by decide, by decide⟩ (by decide) ?_
      refine ga_ishl (z := σ.1 43 n * 4096) dX6_placeOf_53 (sh_12 hs.1 hs.2) (⟨by omega, by omega⟩) ?_
      refine hg_iast dX6_placeOf_54 rfl (by omega) (by omega) ?_
      refine ga_aload_n dX6_placeOf_55 rfl ?_
      refine ga_dup dX6_placeOf_56 rfl ?_
      refine hg_getI 1 grX6_15 dX6_placeOf_57 rfl rfl rfl ?_
      have hc9 : ∀ f g, (stI (stI σ 44 f) 45 g).1 42 1 = c := fun _ _ => hc
      rw [hc9]
      refine ga_iconst dX6_placeOf_60 ⟨by decide, by decide⟩ ?_
      refine ga_iadd dX6_placeOf_61 rfl (⟨by omega, by omega⟩) ?_
      refine hg_putI 1 gfX6_15 dX6_placeOf_62 rfl rfl rfl ?_
      refine ga_iload_n dX6_placeOf_65 rfl ?_
      refine ga_ret (v := some _) ?_ rfl (by decide) (by decide) ⟨dX6_placeOf_66, _, rfl, rfl⟩
      exact Or.inr ⟨hno, rfl, rfl⟩
    · omega
  · intro i hi k hno
    refine ga_iload_n dX6_placeOf_2 rfl ?_
    refine ga_aload_n dX6_placeOf_3 rfl ?_
    refine hg_getI 1 grX6_15 dX6_placeOf_4 rfl rfl rfl ?_
    refine ga_icmp_ge (tgt := 28) dX6_placeOf_7 rfl (fun c_7 => ?_) (fun c_7 => ?_)
    · omega
    · refine ga_aload_n dX6_placeOf_10 rfl ?_
      refine hg_getR grX6_19 dX6_placeOf_11 rfl rfl ?_
      refine ga_iload_n dX6_placeOf_14 rfl ?_
      refine hg_iald dX6_placeOf_15 rfl (by omega) (by omega) ?_
      refine ga_iload_n dX6_placeOf_16 rfl ?_
      refine ga_icmp_ne (tgt := 22) dX6_placeOf_17 rfl (fun c_17 => ?_) (fun c_17 => ?_)
      · refine ga_iinc (z := ((i + 1 : Nat) : Int)) (lv2 := [_, _, _]) dX6_placeOf_22 (by decide) rfl rfl (by omega) (⟨by omega, by omega⟩) rfl ?_
        refine ga_goto (tgt := 2) dX6_placeOf_25 rfl ?_
        refine k (fun j a b => ?_)
        rcases Int.lt_or_le j i with q | q
        · exact hno j a q
        · rw [show j = i by omega]; exact c_17
      · refine ga_iload_n dX6_placeOf_20 rfl ?_
        refine ga_ret (v := some _) ?_ rfl (by decide) (by decide) ⟨dX6_placeOf_21, _, rfl, rfl⟩
        exact Or.inl ⟨i, by omega, by omega, c_17, rfl, rfl⟩
theorem T_X6_placeWith_42 (key m : Int) (σ : ga_S) (c : Nat) (h1 : 0 ≤ m) (h2 : m < 16) (hc : σ.1 42 1 = c) (hc2 : c ≤ 4) : ga_Mt 0 0 0 mX6_placeWith [Vr 42, Vi key, Vi m] (HP σ) (gis (some (Vi (lstF (fun i => σ.1 45 i = key ∧ bitI m i = 0) c))) σ) ga_nox := by
  refine ga_meth [some (Vr 42), some (Vi key), some (Vi m), none] rfl rfl (by decide +kernel) (Nat.le_of_ble_eq_true rfl) rfl ?_
  refine ga_iconst dX6_placeWith_0 ⟨by decide, by decide⟩ ?_
  refine ga_istore_n (lv2 := [_, _, _, _]) dX6_placeWith_1 (by decide) rfl rfl ?_
  refine (ga_loop c (fun i => (∀ j : Int, 0 ≤ j → j < i → ¬ (σ.1 45 j = key ∧ bitI m j = 0)) → ga_W 0 0 0 0 0 mX6_placeWith (gis (some (Vi (lstF (fun i => σ.1 45 i = key ∧ bitI m i = 0) c))) σ) ga_nox 2 [some (Vr 42), some (Vi key), some (Vi m), some (Vi (i : Int))] [] (HP σ)) ?_ ?_ 0 (Nat.zero_le _) (fun j a b => absurd b (by omega)) : _)
  · intro hno
    have e : lstF (fun i => σ.1 45 i = key ∧ bitI m i = 0) c = -1 := by
      rcases lstF_is (fun i => σ.1 45 i = key ∧ bitI m i = 0) c with ⟨q, _⟩ | ⟨q1, q2, q3, _⟩
      · exact q
      · exact absurd q3 (hno _ q1 q2)
    refine ga_iload_n dX6_placeWith_2 rfl ?_
    refine ga_aload_n dX6_placeWith_3 rfl ?_
    refine hg_getI 1 grX6_15 dX6_placeWith_4 rfl rfl rfl ?_
    refine ga_icmp_ge (tgt := 36) dX6_placeWith_7 rfl (fun c_7 => ?_) (fun c_7 => ?_)
    · refine ga_iconst dX6_placeWith_36 ⟨by decide, by decide⟩ ?_
      refine ga_ret (v := some _) ?_ rfl (by decide) (by decide) ⟨dX6_placeWith_37, _, rfl, rfl⟩
      exact ⟨by rw [e], rfl⟩
    · omega
  · intro i hi k hno
    have hd : 0 ≤ m / pw2 (i : Int) ∧ m / pw2 (i : Int) < 16 := by
      rcases pw2_c (i : Int) with q | q | q | q <;> rw [q] <;> omega
    have GO : ¬ (σ.1 45 i = key ∧ bitI m i = 0) → ga_W 0 0 0 0 0 mX6_placeWith (gis (some (Vi (lstF (fun i => σ.1 45 i = key ∧ bitI m i = 0) c))) σ) ga_nox 30 [some (Vr 42), some (Vi key), some (Vi m), some (Vi (i : Int))] [] (HP σ) := by
      intro hn
      refine ga_iinc (z := ((i + 1 : Nat) : Int)) (lv2 := [_, _, _, _]) dX6_placeWith_30 (by decide) rfl rfl (by omega) (⟨by omega, by omega⟩) rfl ?_
      refine ga_goto (tgt := 2) dX6_placeWith_33 rfl ?_
      refine k (fun j a b => ?_)
      rcases Int.lt_or_le j i with q | q
      · exact hno j a q
      · rw [show j = i by omega]; exact hn
    refine ga_iload_n dX6_placeWith_2 rfl ?_
    refine ga_aload_n dX6_placeWith_3 rfl ?_
    refine hg_getI 1 grX6_15 dX6_placeWith_4 rfl rfl rfl ?_
    refine ga_icmp_ge (tgt := 36) dX6_placeWith_7 rfl (fun c_7 => ?_) (fun c_7 => ?_)
    · omega
    · refine ga_aload_n dX6_placeWith_10 rfl ?_
      refine hg_getR grX6_22 dX6_placeWith_11 rfl rfl ?_
      refine ga_iload_n dX6_placeWith_14 rfl ?_
      refine hg_iald dX6_placeWith_15 rfl (by omega) (by omega) ?_
      refine ga_iload_n dX6_placeWith_16 rfl ?_
      refine ga_icmp_ne (tgt := 30) dX6_placeWith_17 rfl (fun c_17 => ?_) (fun c_17 => ?_)
      · exact GO (fun z => c_17 z.1)
      · refine ga_iload_n dX6_placeWith_20 rfl ?_
        refine ga_iload_n dX6_placeWith_21 rfl ?_
        refine ga_ishr (z := m / pw2 (i : Int)) dX6_placeWith_22 (sh_r (by omega) (by omega) h1 h2) (⟨by omega, by omega⟩) ?_
        refine ga_iconst dX6_placeWith_23 ⟨by decide, by decide⟩ ?_
        refine ga_iand (z := bitI m (i : Int)) dX6_placeWith_24 (sh_a hd.1 hd.2) (by unfold bitI; exact ⟨by omega, by omega⟩) ?_
        refine ga_if_ne (tgt := 30) dX6_placeWith_25 rfl (fun c_25 => ?_) (fun c_25 => ?_)
        · exact GO (fun z => c_25 z.2)
        · refine ga_iload_n dX6_placeWith_28 rfl ?_
          refine ga_ret (v := some _) ?_ rfl (by decide) (by decide) ⟨dX6_placeWith_29, _, rfl, rfl⟩
          exact ⟨by rw [lstF_one (by omega) (by omega) ⟨c_17, c_25⟩ hno], rfl⟩
theorem T_X6_lookAt_42 (d : Int) (σ : ga_S) (h1 : 0 ≤ d) (h2 : d < 30) (hk : 0 ≤ σ.1 5 d ∧ σ.1 5 d < 8) (hg : ∀ k : Int, 0 ≤ k → k < 4 → 0 ≤ σ.1 17 (σ.1 5 d * 4 + k) ∧ σ.1 17 (σ.1 5 d * 4 + k) < 4) (hp : ∀ k : Int, 0 ≤ k → k < 4 → σ.1 8 (d * 4 + k) ≠ -1 → 0 ≤ σ.1 8 (d * 4 + k) ∧ σ.1 8 (d * 4 + k) < 40 ∧ 0 ≤ σ.1 43 (σ.1 8 (d * 4 + k)) ∧ σ.1 43 (σ.1 8 (d * 4 + k)) < 200) : ga_Mt 1 0 0 mX6_lookAt [Vr 42, Vr 2, Vr 16, Vi d] (HP σ) (fun v h => ∃ (τ : ga_S) (c : Nat), exc [42, 44, 45] σ τ ∧ τ.1 42 1 = c ∧ LK (σ.1 43) (fun k => σ.1 8 (d * 4 + k)) (fun k => σ.1 17 (σ.1 5 d * 4 + k)) (τ.1 44) (τ.1 45) c 4 ∧ v = none ∧ h = HP τ) ga_nox := by
  refine ga_meth [some (Vr 42), some (Vr 2), some (Vr 16), some (Vi d), none, none, none] rfl rfl (by decide +kernel) (Nat.le_of_ble_eq_true rfl) rfl ?_
  refine ga_aload_n dX6_lookAt_0 rfl ?_
  refine ga_iconst dX6_lookAt_1 ⟨by decide, by decide⟩ ?_
  refine hg_putI 1 gfX6_15 dX6_lookAt_2 rfl rfl rfl ?_
  refine ga_iconst dX6_lookAt_5 ⟨by decide, by decide⟩ ?_
  refine ga_istore (lv2 := [_, _, _, _, _, _, _]) dX6_lookAt_6 (by decide) rfl rfl ?_
  refine (ga_loop 4 (fun e => ∀ (τ : ga_S) (c : Nat) a b, exc [42, 44, 45] σ τ → τ.1 42 1 = c → LK (σ.1 43) (fun k => σ.1 8 (d * 4 + k)) (fun k => σ.1 17 (σ.1 5 d * 4 + k)) (τ.1 44) (τ.1 45) c e → ga_W 1 0 0 0 0 mX6_lookAt (fun v h => ∃ (τ : ga_S) (c : Nat), exc [42, 44, 45] σ τ ∧ τ.1 42 1 = c ∧ LK (σ.1 43) (fun k => σ.1 8 (d * 4 + k)) (fun k => σ.1 17 (σ.1 5 d * 4 + k)) (τ.1 44) (τ.1 45) c 4 ∧ v = none ∧ h = HP τ) ga_nox 8 [some (Vr 42), some (Vr 2), some (Vr 16), some (Vi d), some (Vi (e : Int)), a, b] [] (HP τ)) ?_ ?_ 0 (Nat.zero_le _) (stI σ 42 (ga_up (σ.1 42) 1 0)) 0 none none (exc_st exc_r (by decide)) rfl LK_0 : _)
  · intro τ c a b hx h3 h4
    refine ga_iload dX6_lookAt_8 rfl ?_
    refine ga_iconst dX6_lookAt_10 ⟨by decide, by decide⟩ ?_
    refine ga_icmp_ge (tgt := 69) dX6_lookAt_11 rfl (fun c_11 => ?_) (fun c_11 => ?_)
    · refine ga_ret (v := none) ?_ rfl (by decide) (by decide) ⟨dX6_lookAt_69, rfl⟩
      exact ⟨τ, c, hx, h3, h4, rfl, rfl⟩
    · omega
  · intro e he k τ c a b hx h3 h4
    have e1 : τ.1 8 (d * 4 + (e : Int)) = σ.1 8 (d * 4 + (e : Int)) := by rw [hx.1 8 (by decide)]
    have e2 : τ.1 5 d = σ.1 5 d := by rw [hx.1 5 (by decide)]
    have e3 : τ.1 17 (σ.1 5 d * 4 + (e : Int)) = σ.1 17 (σ.1 5 d * 4 + (e : Int)) := by rw [hx.1 17 (by decide)]
    have e4 := hx.1 43 (by decide)
    refine ga_iload dX6_lookAt_8 rfl ?_
    refine ga_iconst dX6_lookAt_10 ⟨by decide, by decide⟩ ?_
    refine ga_icmp_ge (tgt := 69) dX6_lookAt_11 rfl (fun c_11 => ?_) (fun c_11 => ?_)
    · omega
    · refine ga_aload_n dX6_lookAt_14 rfl ?_
      refine ga_iload_n dX6_lookAt_15 rfl ?_
      refine ga_iload dX6_lookAt_16 rfl ?_
      refine hc_V (T_X9_netOf_2 d e τ h1 h2 (by omega) (by omega)) fX9_netOf rfl kX9_netOf lkX6_25 dX6_lookAt_18 rfl rfl rfl rfl rfl rfl rfl rfl ?_
      rw [e1]
      refine ga_istore (lv2 := [_, _, _, _, _, _, _]) dX6_lookAt_21 (by decide) rfl rfl ?_
      refine ga_iload dX6_lookAt_23 rfl ?_
      refine ga_iconst dX6_lookAt_25 ⟨by decide, by decide⟩ ?_
      refine ga_icmp_eq (tgt := 63) dX6_lookAt_26 rfl (fun c_26 => ?_) (fun c_26 => ?_)
      · have c9 : σ.1 8 (d * 4 + (e : Int)) = -1 := c_26
        refine ga_iinc (z := ((e + 1 : Nat) : Int)) (lv2 := [_, _, _, _, _, _, _]) dX6_lookAt_63 (by decide) rfl rfl (by omega) (⟨by omega, by omega⟩) rfl ?_
        refine ga_goto (tgt := 8) dX6_lookAt_66 rfl ?_
        exact k τ c _ _ hx h3 (LK_no h4 c9)
      · have c9 : ¬ σ.1 8 (d * 4 + (e : Int)) = -1 := c_26
        have hpe := hp e (by omega) (by omega) c9
        have hge := hg e (by omega) (by omega)
        have hpw := pw8_b (σ.1 17 (σ.1 5 d * 4 + (e : Int)))
        have hce : c ≤ e := h4.1
        refine ga_aload_n dX6_lookAt_29 rfl ?_
        refine ga_aload_n dX6_lookAt_30 rfl ?_
        refine hg_getR grX6_31 dX6_lookAt_31 rfl rfl ?_
        refine ga_iload_n dX6_lookAt_34 rfl ?_
        refine hg_iald dX6_lookAt_35 rfl (by omega) (by omega) ?_
        rw [e2]
        refine ga_iload dX6_lookAt_36 rfl ?_
        refine hc_V (T_X4_groupOf (σ.1 5 d) e τ hk.1 hk.2 (by omega) (by omega)) fX4_groupOf rfl kX4_groupOf lkX6_34 dX6_lookAt_38 rfl rfl rfl rfl rfl rfl rfl rfl ?_
        rw [e3]
        refine ga_istore (lv2 := [_, _, _, _, _, _, _]) dX6_lookAt_41 (by decide) rfl rfl ?_
        refine ga_aload_n dX6_lookAt_43 rfl ?_
        refine hg_getR grX6_22 dX6_lookAt_44 rfl rfl ?_
        refine ga_aload_n dX6_lookAt_47 rfl ?_
        refine ga_iload dX6_lookAt_48 rfl ?_
        refine hc_VP (T_X6_placeOf_42 (σ.1 8 (d * 4 + (e : Int))) τ c hpe.1 hpe.2.1 h3 (by omega) (fun _ => by omega) (by rw [e4]; exact hpe.2.2)) fX6_placeOf rfl kX6_placeOf lkX6_39 dX6_lookAt_50 rfl rfl rfl rfl rfl rfl rfl rfl ?_
        rintro v h (⟨r, r1, r2, r3, r4, r5⟩ | ⟨r3, r4, r5⟩)
        · rw [r4, r5]
          have hky : τ.1 45 r = σ.1 43 (σ.1 8 (d * 4 + (e : Int))) * 4096 + sz (fun k => tv (σ.1 8 (d * 4 + k) = σ.1 8 (d * 4 + (e : Int))) * pw8 (σ.1 17 (σ.1 5 d * 4 + k))) e := by rw [h4.2.2.2.2 r r1 r2, r3]
          have hs := LK_sum (pin := fun k => σ.1 8 (d * 4 + k)) (g := fun k => σ.1 17 (σ.1 5 d * 4 + k)) (n := σ.1 8 (d * 4 + (e : Int))) e
          refine ga_dup2 dX6_lookAt_53 rfl rfl ?_
          refine hg_iald dX6_lookAt_54 rfl (by omega) (by omega) ?_
          refine ga_iconst dX6_lookAt_55 ⟨by decide, by decide⟩ ?_
          refine ga_iconst dX6_lookAt_56 ⟨by decide, by decide⟩ ?_
          refine ga_iload dX6_lookAt_57 rfl ?_
          refine ga_imul dX6_lookAt_59 rfl (⟨by omega, by omega⟩) ?_
          refine ga_ishl (z := pw8 (σ.1 17 (σ.1 5 d * 4 + (e : Int)))) dX6_lookAt_60 (sh_8 hge.1 hge.2) (⟨by omega, by omega⟩) ?_
          refine ga_iadd dX6_lookAt_61 rfl (⟨by omega, by omega⟩) ?_
          refine hg_iast dX6_lookAt_62 rfl (by omega) (by omega) ?_
          refine ga_iinc (z := ((e + 1 : Nat) : Int)) (lv2 := [_, _, _, _, _, _, _]) dX6_lookAt_63 (by decide) rfl rfl (by omega) (⟨by omega, by omega⟩) rfl ?_
          refine ga_goto (tgt := 8) dX6_lookAt_66 rfl ?_
          exact k _ c _ _ (exc_st hx (by decide)) h3 (LK_old h4 r1 r2 r3 c9)
        · rw [r4, r5]
          have hn := LK_new h4 c9 r3
          have e5 : (stI (stI (stI τ 44 (ga_up (τ.1 44) c (σ.1 8 (d * 4 + (e : Int))))) 45 (ga_up (τ.1 45) c (τ.1 43 (σ.1 8 (d * 4 + (e : Int))) * 4096))) 42 (ga_up (τ.1 42) 1 (c + 1))).1 45 c = σ.1 43 (σ.1 8 (d * 4 + (e : Int))) * 4096 := by
            rw [← e4]
            exact ga_up_at _ _ _
          refine ga_dup2 dX6_lookAt_53 rfl rfl ?_
          refine hg_iald dX6_lookAt_54 rfl (by omega) (by omega) ?_
          rw [e5]
          refine ga_iconst dX6_lookAt_55 ⟨by decide, by decide⟩ ?_
          refine ga_iconst dX6_lookAt_56 ⟨by decide, by decide⟩ ?_
          refine ga_iload dX6_lookAt_57 rfl ?_
          refine ga_imul dX6_lookAt_59 rfl (⟨by omega, by omega⟩) ?_
          refine ga_ishl (z := pw8 (σ.1 17 (σ.1 5 d * 4 + (e : Int)))) dX6_lookAt_60 (sh_8 hge.1 hge.2) (⟨by omega, by omega⟩) ?_
          refine ga_iadd dX6_lookAt_61 rfl (⟨by omega, by omega⟩) ?_
          refine hg_iast dX6_lookAt_62 rfl (by omega) (by omega) ?_
          refine ga_iinc (z := ((e + 1 : Nat) : Int)) (lv2 := [_, _, _, _, _, _, _]) dX6_lookAt_63 (by decide) rfl rfl (by omega) (⟨by omega, by omega⟩) rfl ?_
          refine ga_goto (tgt := 8) dX6_lookAt_66 rfl ?_
          refine k _ (c + 1) _ _ (exc_st (exc_st (exc_st (exc_st hx (by decide)) (by decide)) (by decide)) (by decide)) rfl ?_
          rw [← e4] at hn ⊢
          exact hn
theorem T_X6_placeOf_46 (n : Int) (σ : ga_S) (c : Nat) (h1 : 0 ≤ n) (h2 : n < 40) (hc : σ.1 46 1 = c) (hc2 : c ≤ 4) (hc3 : (∀ i : Int, 0 ≤ i → i < c → σ.1 48 i ≠ n) → c < 4) (hs : 0 ≤ σ.1 47 n ∧ σ.1 47 n < 200) : ga_Mt 0 0 0 mX6_placeOf [Vr 46, Vi n] (HP σ) (fun v h => (∃ i : Int, 0 ≤ i ∧ i < c ∧ σ.1 48 i = n ∧ v = some (Vi i) ∧ h = HP σ) ∨ ((∀ i : Int, 0 ≤ i → i < c → σ.1 48 i ≠ n) ∧ v = some (Vi c) ∧ h = HP (stI (stI (stI σ 48 (ga_up (σ.1 48) c n)) 49 (ga_up (σ.1 49) c (σ.1 47 n * 4096))) 46 (ga_up (σ.1 46) 1 (c + 1))))) ga_nox := by
  refine ga_meth [some (Vr 46), some (Vi n), none] rfl rfl (by decide +kernel) (Nat.le_of_ble_eq_true rfl) rfl ?_
  refine ga_iconst dX6_placeOf_0 ⟨by decide, by decide⟩ ?_
  refine ga_istore_n (lv2 := [_, _, _]) dX6_placeOf_1 (by decide) rfl rfl ?_
  refine (ga_loop c (fun i => (∀ j : Int, 0 ≤ j → j < i → σ.1 48 j ≠ n) → ga_W 0 0 0 0 0 mX6_placeOf (fun v h => (∃ i : Int, 0 ≤ i ∧ i < c ∧ σ.1 48 i = n ∧ v = some (Vi i) ∧ h = HP σ) ∨ ((∀ i : Int, 0 ≤ i → i < c → σ.1 48 i ≠ n) ∧ v = some (Vi c) ∧ h = HP (stI (stI (stI σ 48 (ga_up (σ.1 48) c n)) 49 (ga_up (σ.1 49) c (σ.1 47 n * 4096))) 46 (ga_up (σ.1 46) 1 (c + 1))))) ga_nox 2 [some (Vr 46), some (Vi n), some (Vi (i : Int))] [] (HP σ)) ?_ ?_ 0 (Nat.zero_le _) (fun j a b => absurd b (by omega)) : _)
  · intro hno
    have hc4 := hc3 hno
    refine ga_iload_n dX6_placeOf_2 rfl ?_
    refine ga_aload_n dX6_placeOf_3 rfl ?_
    refine hg_getI 1 grX6_15 dX6_placeOf_4 rfl rfl rfl ?_
    refine ga_icmp_ge (tgt := 28) dX6_placeOf_7 rfl (fun c_7 => ?_) (fun c_7 => ?_)
    · refine ga_aload_n dX6_placeOf_28 rfl ?_
      refine hg_getI 1 grX6_15 dX6_placeOf_29 rfl rfl rfl ?_
      rw [hc]
      refine ga_istore_n (lv2 := [_, _, _]) dX6_placeOf_32 (by decide) rfl rfl ?_
      refine ga_aload_n dX6_placeOf_33 rfl ?_
      refine hg_getR grX6_19 dX6_placeOf_34 rfl rfl ?_
      refine ga_iload_n dX6_placeOf_37 rfl ?_
      refine ga_iload_n dX6_placeOf_38 rfl ?_
      refine hg_iast dX6_placeOf_39 rfl (by omega) (by omega) ?_
      refine ga_aload_n dX6_placeOf_40 rfl ?_
      refine hg_getR grX6_22 dX6_placeOf_41 rfl rfl ?_
      refine ga_iload_n dX6_placeOf_44 rfl ?_
      refine ga_aload_n dX6_placeOf_45 rfl ?_
      refine hg_getR grX6_9 dX6_placeOf_46 rfl rfl ?_
      refine ga_iload_n dX6_placeOf_49 rfl ?_
      refine hg_iald dX6_placeOf_50 rfl (by omega) (by omega) ?_
      refine ga_bipush dX6_placeOf_51 ⟨by decide, by decide⟩ (by decide) ?_
      refine ga_ishl (z := σ.1 47 n * 4096) dX6_placeOf_53 (sh_12 hs.1 hs.2) (⟨by omega, by omega⟩) ?_
      refine hg_iast dX6_placeOf_54 rfl (by omega) (by omega) ?_
      refine ga_aload_n dX6_placeOf_55 rfl ?_
      refine ga_dup dX6_placeOf_56 rfl ?_
      refine hg_getI 1 grX6_15 dX6_placeOf_57 rfl rfl rfl ?_
      have hc9 : ∀ f g, (stI (stI σ 48 f) 49 g).1 46 1 = c := fun _ _ => hc
      rw [hc9]
      refine ga_iconst dX6_placeOf_60 ⟨by decide, by decide⟩ ?_
      refine ga_iadd dX6_placeOf_61 rfl (⟨by omega, by omega⟩) ?_
      refine hg_putI 1 gfX6_15 dX6_placeOf_62 rfl rfl rfl ?_
      refine ga_iload_n dX6_placeOf_65 rfl ?_
      refine ga_ret (v := some _) ?_ rfl (by decide) (by decide) ⟨dX6_placeOf_66, _, rfl, rfl⟩
      exact Or.inr ⟨hno, rfl, rfl⟩
    · omega
  · intro i hi k hno
    refine ga_iload_n dX6_placeOf_2 rfl ?_
    refine ga_aload_n dX6_placeOf_3 rfl ?_
    refine hg_getI 1 grX6_15 dX6_placeOf_4 rfl rfl rfl ?_
    refine ga_icmp_ge (tgt := 28) dX6_placeOf_7 rfl (fun c_7 => ?_) (fun c_7 => ?_)
    · omega
    · refine ga_aload_n dX6_placeOf_10 rfl ?_
      refine hg_getR grX6_19 dX6_placeOf_11 rfl rfl ?_
      refine ga_iload_n dX6_placeOf_14 rfl ?_
      refine hg_iald dX6_placeOf_15 rfl (by omega) (by omega) ?_
      refine ga_iload_n dX6_placeOf_16 rfl ?_
      refine ga_icmp_ne (tgt := 22) dX6_placeOf_17 rfl (fun c_17 => ?_) (fun c_17 => ?_)
      · refine ga_iinc (z := ((i + 1 : Nat) : Int)) (lv2 := [_, _, _]) dX6_placeOf_22 (by decide) rfl rfl (by omega) (⟨by omega, by omega⟩) rfl ?_
        refine ga_goto (tgt := 2) dX6_placeOf_25 rfl ?_
        refine k (fun j a b => ?_)
        rcases Int.lt_or_le j i with q | q
        · exact hno j a q
        · rw [show j = i by omega]; exact c_17
      · refine ga_iload_n dX6_placeOf_20 rfl ?_
        refine ga_ret (v := some _) ?_ rfl (by decide) (by decide) ⟨dX6_placeOf_21, _, rfl, rfl⟩
        exact Or.inl ⟨i, by omega, by omega, c_17, rfl, rfl⟩
theorem T_X6_placeWith_46 (key m : Int) (σ : ga_S) (c : Nat) (h1 : 0 ≤ m) (h2 : m < 16) (hc : σ.1 46 1 = c) (hc2 : c ≤ 4) : ga_Mt 0 0 0 mX6_placeWith [Vr 46, Vi key, Vi m] (HP σ) (gis (some (Vi (lstF (fun i => σ.1 49 i = key ∧ bitI m i = 0) c))) σ) ga_nox := by
  refine ga_meth [some (Vr 46), some (Vi key), some (Vi m), none] rfl rfl (by decide +kernel) (Nat.le_of_ble_eq_true rfl) rfl ?_
  refine ga_iconst dX6_placeWith_0 ⟨by decide, by decide⟩ ?_
  refine ga_istore_n (lv2 := [_, _, _, _]) dX6_placeWith_1 (by decide) rfl rfl ?_
  refine (ga_loop c (fun i => (∀ j : Int, 0 ≤ j → j < i → ¬ (σ.1 49 j = key ∧ bitI m j = 0)) → ga_W 0 0 0 0 0 mX6_placeWith (gis (some (Vi (lstF (fun i => σ.1 49 i = key ∧ bitI m i = 0) c))) σ) ga_nox 2 [some (Vr 46), some (Vi key), some (Vi m), some (Vi (i : Int))] [] (HP σ)) ?_ ?_ 0 (Nat.zero_le _) (fun j a b => absurd b (by omega)) : _)
  · intro hno
    have e : lstF (fun i => σ.1 49 i = key ∧ bitI m i = 0) c = -1 := by
      rcases lstF_is (fun i => σ.1 49 i = key ∧ bitI m i = 0) c with ⟨q, _⟩ | ⟨q1, q2, q3, _⟩
      · exact q
      · exact absurd q3 (hno _ q1 q2)
    refine ga_iload_n dX6_placeWith_2 rfl ?_
    refine ga_aload_n dX6_placeWith_3 rfl ?_
    refine hg_getI 1 grX6_15 dX6_placeWith_4 rfl rfl rfl ?_
    refine ga_icmp_ge (tgt := 36) dX6_placeWith_7 rfl (fun c_7 => ?_) (fun c_7 => ?_)
    · refine ga_iconst dX6_placeWith_36 ⟨by decide, by decide⟩ ?_
      refine ga_ret (v := some _) ?_ rfl (by decide) (by decide) ⟨dX6_placeWith_37, _, rfl, rfl⟩
      exact ⟨by rw [e], rfl⟩
    · omega
  · intro i hi k hno
    have hd : 0 ≤ m / pw2 (i : Int) ∧ m / pw2 (i : Int) < 16 := by
      rcases pw2_c (i : Int) with q | q | q | q <;> rw [q] <;> omega
    have GO : ¬ (σ.1 49 i = key ∧ bitI m i = 0) → ga_W 0 0 0 0 0 mX6_placeWith (gis (some (Vi (lstF (fun i => σ.1 49 i = key ∧ bitI m i = 0) c))) σ) ga_nox 30 [some (Vr 46), some (Vi key), some (Vi m), some (Vi (i : Int))] [] (HP σ) := by
      intro hn
      refine ga_iinc (z := ((i + 1 : Nat) : Int)) (lv2 := [_, _, _, _]) dX6_placeWith_30 (by decide) rfl rfl (by omega) (⟨by omega, by omega⟩) rfl ?_
      refine ga_goto (tgt := 2) dX6_placeWith_33 rfl ?_
      refine k (fun j a b => ?_)
      rcases Int.lt_or_le j i with q | q
      · exact hno j a q
      · rw [show j = i by omega]; exact hn
    refine ga_iload_n dX6_placeWith_2 rfl ?_
    refine ga_aload_n dX6_placeWith_3 rfl ?_
    refine hg_getI 1 grX6_15 dX6_placeWith_4 rfl rfl rfl ?_
    refine ga_icmp_ge (tgt := 36) dX6_placeWith_7 rfl (fun c_7 => ?_) (fun c_7 => ?_)
    · omega
    · refine ga_aload_n dX6_placeWith_10 rfl ?_
      refine hg_getR grX6_22 dX6_placeWith_11 rfl rfl ?_
      refine ga_iload_n dX6_placeWith_14 rfl ?_
      refine hg_iald dX6_placeWith_15 rfl (by omega) (by omega) ?_
      refine ga_iload_n dX6_placeWith_16 rfl ?_
      refine ga_icmp_ne (tgt := 30) dX6_placeWith_17 rfl (fun c_17 => ?_) (fun c_17 => ?_)
      · exact GO (fun z => c_17 z.1)
      · refine ga_iload_n dX6_placeWith_20 rfl ?_
        refine ga_iload_n dX6_placeWith_21 rfl ?_
        refine ga_ishr (z := m / pw2 (i : Int)) dX6_placeWith_22 (sh_r (by omega) (by omega) h1 h2) (⟨by omega, by omega⟩) ?_
        refine ga_iconst dX6_placeWith_23 ⟨by decide, by decide⟩ ?_
        refine ga_iand (z := bitI m (i : Int)) dX6_placeWith_24 (sh_a hd.1 hd.2) (by unfold bitI; exact ⟨by omega, by omega⟩) ?_
        refine ga_if_ne (tgt := 30) dX6_placeWith_25 rfl (fun c_25 => ?_) (fun c_25 => ?_)
        · exact GO (fun z => c_25 z.2)
        · refine ga_iload_n dX6_placeWith_28 rfl ?_
          refine ga_ret (v := some _) ?_ rfl (by decide) (by decide) ⟨dX6_placeWith_29, _, rfl, rfl⟩
          exact ⟨by rw [lstF_one (by omega) (by omega) ⟨c_17, c_25⟩ hno], rfl⟩
theorem T_X6_lookAt_46 (d : Int) (σ : ga_S) (h1 : 0 ≤ d) (h2 : d < 30) (hk : 0 ≤ σ.1 12 d ∧ σ.1 12 d < 8) (hg : ∀ k : Int, 0 ≤ k → k < 4 → 0 ≤ σ.1 17 (σ.1 12 d * 4 + k) ∧ σ.1 17 (σ.1 12 d * 4 + k) < 4) (hp : ∀ k : Int, 0 ≤ k → k < 4 → σ.1 15 (d * 4 + k) ≠ -1 → 0 ≤ σ.1 15 (d * 4 + k) ∧ σ.1 15 (d * 4 + k) < 40 ∧ 0 ≤ σ.1 47 (σ.1 15 (d * 4 + k)) ∧ σ.1 47 (σ.1 15 (d * 4 + k)) < 200) : ga_Mt 1 0 0 mX6_lookAt [Vr 46, Vr 9, Vr 16, Vi d] (HP σ) (fun v h => ∃ (τ : ga_S) (c : Nat), exc [46, 48, 49] σ τ ∧ τ.1 46 1 = c ∧ LK (σ.1 47) (fun k => σ.1 15 (d * 4 + k)) (fun k => σ.1 17 (σ.1 12 d * 4 + k)) (τ.1 48) (τ.1 49) c 4 ∧ v = none ∧ h = HP τ) ga_nox := by
  refine ga_meth [some (Vr 46), some (Vr 9), some (Vr 16), some (Vi d), none, none, none] rfl rfl (by decide +kernel) (Nat.le_of_ble_eq_true rfl) rfl ?_
  refine ga_aload_n dX6_lookAt_0 rfl ?_
  refine ga_iconst dX6_lookAt_1 ⟨by decide, by decide⟩ ?_
  refine hg_putI 1 gfX6_15 dX6_lookAt_2 rfl rfl rfl ?_
  refine ga_iconst dX6_lookAt_5 ⟨by decide, by decide⟩ ?_
  refine ga_istore (lv2 := [_, _, _, _, _, _, _]) dX6_lookAt_6 (by decide) rfl rfl ?_
  refine (ga_loop 4 (fun e => ∀ (τ : ga_S) (c : Nat) a b, exc [46, 48, 49] σ τ → τ.1 46 1 = c → LK (σ.1 47) (fun k => σ.1 15 (d * 4 + k)) (fun k => σ.1 17 (σ.1 12 d * 4 + k)) (τ.1 48) (τ.1 49) c e → ga_W 1 0 0 0 0 mX6_lookAt (fun v h => ∃ (τ : ga_S) (c : Nat), exc [46, 48, 49] σ τ ∧ τ.1 46 1 = c ∧ LK (σ.1 47) (fun k => σ.1 15 (d * 4 + k)) (fun k => σ.1 17 (σ.1 12 d * 4 + k)) (τ.1 48) (τ.1 49) c 4 ∧ v = none ∧ h = HP τ) ga_nox 8 [some (Vr 46), some (Vr 9), some (Vr 16), some (Vi d), some (Vi (e : Int)), a, b] [] (HP τ)) ?_ ?_ 0 (Nat.zero_le _) (stI σ 46 (ga_up (σ.1 46) 1 0)) 0 none none (exc_st exc_r (by decide)) rfl LK_0 : _)
  · intro τ c a b hx h3 h4
    refine ga_iload dX6_lookAt_8 rfl ?_
    refine ga_iconst dX6_lookAt_10 ⟨by decide, by decide⟩ ?_
    refine ga_icmp_ge (tgt := 69) dX6_lookAt_11 rfl (fun c_11 => ?_) (fun c_11 => ?_)
    · refine ga_ret (v := none) ?_ rfl (by decide) (by decide) ⟨dX6_lookAt_69, rfl⟩
      exact ⟨τ, c, hx, h3, h4, rfl, rfl⟩
    · omega
  · intro e he k τ c a b hx h3 h4
    have e1 : τ.1 15 (d * 4 + (e : Int)) = σ.1 15 (d * 4 + (e : Int)) := by rw [hx.1 15 (by decide)]
    have e2 : τ.1 12 d = σ.1 12 d := by rw [hx.1 12 (by decide)]
    have e3 : τ.1 17 (σ.1 12 d * 4 + (e : Int)) = σ.1 17 (σ.1 12 d * 4 + (e : Int)) := by rw [hx.1 17 (by decide)]
    have e4 := hx.1 47 (by decide)
    refine ga_iload dX6_lookAt_8 rfl ?_
    refine ga_iconst dX6_lookAt_10 ⟨by decide, by decide⟩ ?_
    refine ga_icmp_ge (tgt := 69) dX6_lookAt_11 rfl (fun c_11 => ?_) (fun c_11 => ?_)
    · omega
    · refine ga_aload_n dX6_lookAt_14 rfl ?_
      refine ga_iload_n dX6_lookAt_15 rfl ?_
      refine ga_iload dX6_lookAt_16 rfl ?_
      refine hc_V (T_X9_netOf_9 d e τ h1 h2 (by omega) (by omega)) fX9_netOf rfl kX9_netOf lkX6_25 dX6_lookAt_18 rfl rfl rfl rfl rfl rfl rfl rfl ?_
      rw [e1]
      refine ga_istore (lv2 := [_, _, _, _, _, _, _]) dX6_lookAt_21 (by decide) rfl rfl ?_
      refine ga_iload dX6_lookAt_23 rfl ?_
      refine ga_iconst dX6_lookAt_25 ⟨by decide, by decide⟩ ?_
      refine ga_icmp_eq (tgt := 63) dX6_lookAt_26 rfl (fun c_26 => ?_) (fun c_26 => ?_)
      · have c9 : σ.1 15 (d * 4 + (e : Int)) = -1 := c_26
        refine ga_iinc (z := ((e + 1 : Nat) : Int)) (lv2 := [_, _, _, _, _, _, _]) dX6_lookAt_63 (by decide) rfl rfl (by omega) (⟨by omega, by omega⟩) rfl ?_
        refine ga_goto (tgt := 8) dX6_lookAt_66 rfl ?_
        exact k τ c _ _ hx h3 (LK_no h4 c9)
      · have c9 : ¬ σ.1 15 (d * 4 + (e : Int)) = -1 := c_26
        have hpe := hp e (by omega) (by omega) c9
        have hge := hg e (by omega) (by omega)
        have hpw := pw8_b (σ.1 17 (σ.1 12 d * 4 + (e : Int)))
        have hce : c ≤ e := h4.1
        refine ga_aload_n dX6_lookAt_29 rfl ?_
        refine ga_aload_n dX6_lookAt_30 rfl ?_
        refine hg_getR grX6_31 dX6_lookAt_31 rfl rfl ?_
        refine ga_iload_n dX6_lookAt_34 rfl ?_
        refine hg_iald dX6_lookAt_35 rfl (by omega) (by omega) ?_
        rw [e2]
        refine ga_iload dX6_lookAt_36 rfl ?_
        refine hc_V (T_X4_groupOf (σ.1 12 d) e τ hk.1 hk.2 (by omega) (by omega)) fX4_groupOf rfl kX4_groupOf lkX6_34 dX6_lookAt_38 rfl rfl rfl rfl rfl rfl rfl rfl ?_
        rw [e3]
        refine ga_istore (lv2 := [_, _, _, _, _, _, _]) dX6_lookAt_41 (by decide) rfl rfl ?_
        refine ga_aload_n dX6_lookAt_43 rfl ?_
        refine hg_getR grX6_22 dX6_lookAt_44 rfl rfl ?_
        refine ga_aload_n dX6_lookAt_47 rfl ?_
        refine ga_iload dX6_lookAt_48 rfl ?_
        refine hc_VP (T_X6_placeOf_46 (σ.1 15 (d * 4 + (e : Int))) τ c hpe.1 hpe.2.1 h3 (by omega) (fun _ => by omega) (by rw [e4]; exact hpe.2.2)) fX6_placeOf rfl kX6_placeOf lkX6_39 dX6_lookAt_50 rfl rfl rfl rfl rfl rfl rfl rfl ?_
        rintro v h (⟨r, r1, r2, r3, r4, r5⟩ | ⟨r3, r4, r5⟩)
        · rw [r4, r5]
          have hky : τ.1 49 r = σ.1 47 (σ.1 15 (d * 4 + (e : Int))) * 4096 + sz (fun k => tv (σ.1 15 (d * 4 + k) = σ.1 15 (d * 4 + (e : Int))) * pw8 (σ.1 17 (σ.1 12 d * 4 + k))) e := by rw [h4.2.2.2.2 r r1 r2, r3]
          have hs := LK_sum (pin := fun k => σ.1 15 (d * 4 + k)) (g := fun k => σ.1 17 (σ.1 12 d * 4 + k)) (n := σ.1 15 (d * 4 + (e : Int))) e
          refine ga_dup2 dX6_lookAt_53 rfl rfl ?_
          refine hg_iald dX6_lookAt_54 rfl (by omega) (by omega) ?_
          refine ga_iconst dX6_lookAt_55 ⟨by decide, by decide⟩ ?_
          refine ga_iconst dX6_lookAt_56 ⟨by decide, by decide⟩ ?_
          refine ga_iload dX6_lookAt_57 rfl ?_
          refine ga_imul dX6_lookAt_59 rfl (⟨by omega, by omega⟩) ?_
          refine ga_ishl (z := pw8 (σ.1 17 (σ.1 12 d * 4 + (e : Int)))) dX6_lookAt_60 (sh_8 hge.1 hge.2) (⟨by omega, by omega⟩) ?_
          refine ga_iadd dX6_lookAt_61 rfl (⟨by omega, by omega⟩) ?_
          refine hg_iast dX6_lookAt_62 rfl (by omega) (by omega) ?_
          refine ga_iinc (z := ((e + 1 : Nat) : Int)) (lv2 := [_, _, _, _, _, _, _]) dX6_lookAt_63 (by decide) rfl rfl (by omega) (⟨by omega, by omega⟩) rfl ?_
          refine ga_goto (tgt := 8) dX6_lookAt_66 rfl ?_
          exact k _ c _ _ (exc_st hx (by decide)) h3 (LK_old h4 r1 r2 r3 c9)
        · rw [r4, r5]
          have hn := LK_new h4 c9 r3
          have e5 : (stI (stI (stI τ 48 (ga_up (τ.1 48) c (σ.1 15 (d * 4 + (e : Int))))) 49 (ga_up (τ.1 49) c (τ.1 47 (σ.1 15 (d * 4 + (e : Int))) * 4096))) 46 (ga_up (τ.1 46) 1 (c + 1))).1 49 c = σ.1 47 (σ.1 15 (d * 4 + (e : Int))) * 4096 := by
            rw [← e4]
            exact ga_up_at _ _ _
          refine ga_dup2 dX6_lookAt_53 rfl rfl ?_
          refine hg_iald dX6_lookAt_54 rfl (by omega) (by omega) ?_
          rw [e5]
          refine ga_iconst dX6_lookAt_55 ⟨by decide, by decide⟩ ?_
          refine ga_iconst dX6_lookAt_56 ⟨by decide, by decide⟩ ?_
          refine ga_iload dX6_lookAt_57 rfl ?_
          refine ga_imul dX6_lookAt_59 rfl (⟨by omega, by omega⟩) ?_
          refine ga_ishl (z := pw8 (σ.1 17 (σ.1 12 d * 4 + (e : Int)))) dX6_lookAt_60 (sh_8 hge.1 hge.2) (⟨by omega, by omega⟩) ?_
          refine ga_iadd dX6_lookAt_61 rfl (⟨by omega, by omega⟩) ?_
          refine hg_iast dX6_lookAt_62 rfl (by omega) (by omega) ?_
          refine ga_iinc (z := ((e + 1 : Nat) : Int)) (lv2 := [_, _, _, _, _, _, _]) dX6_lookAt_63 (by decide) rfl rfl (by omega) (⟨by omega, by omega⟩) rfl ?_
          refine ga_goto (tgt := 8) dX6_lookAt_66 rfl ?_
          refine k _ (c + 1) _ _ (exc_st (exc_st (exc_st (exc_st hx (by decide)) (by decide)) (by decide)) (by decide)) rfl ?_
          rw [← e4] at hn ⊢
          exact hn
