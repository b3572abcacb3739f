-- the law's wrappers
def WPo (ok : Int → ga_S → Prop) (bad : Int → Prop) (σ : ga_S) : ga_Po := fun v h => (∃ a σ1, ok a σ1 ∧ v = some (Vi 0) ∧ h = HP (outS σ1 a)) ∨ (∃ c, bad c ∧ 0 < c ∧ v = some (Vi c) ∧ h = HP σ)
abbrev okP (ok : Int → ga_S → Prop) : ga_Po := fun v h => ∃ a σ1, ok a σ1 ∧ v = some (Vi a) ∧ h = HP σ1
theorem hdL_net_1 : ga_Hd mL_net 5 xI 13 := ⟨[], _, _, rfl, (fun z hz => by cases hz), by decide, by decide, hl_91, hc_91, rfl⟩
theorem hdL_net_2 : ga_Hd mL_net 5 xS 17 := ⟨[_], _, _, rfl, (fun z hz => by rw [List.mem_singleton.mp hz]; exact Or.inr ⟨by decide, xI, hl_91, by decide⟩), by decide, by decide, hl_71, hc_71, rfl⟩
theorem hdL_net_3 : ga_Hd mL_net 5 xA 21 := ⟨[_, _], _, _, rfl, (fun z hz => by rcases List.mem_cons.mp hz with q | q; rw [q]; exact Or.inr ⟨by decide, xI, hl_91, by decide⟩; rw [List.mem_singleton.mp q]; exact Or.inr ⟨by decide, xS, hl_71, by decide⟩), by decide, by decide, hl_78, hc_78, rfl⟩
theorem T_L_net (p0 : Int) (p1 : Int) (σ : ga_S) (ok : Int → ga_S → Prop) (bad : Int → Prop) {t2 m2 s2 : Nat} (ht : t2 ≤ 8) (hm : m2 ≤ 1) (hs : s2 ≤ 6) (hM : ga_Mt t2 m2 s2 mX10_net [Vr 0, Vi p0, Vi p1] (HP σ) (okP ok) (fun E h => ((E = xI ∧ bad 1) ∨ (E = xS ∧ bad 2) ∨ (E = xA ∧ bad 3)) ∧ h = HP σ)) : ga_Mt 9 1 6 mL_net [Vr 0, Vi p0, Vi p1, Vr 88] (HP σ) (WPo ok bad σ) ga_nox := by
  refine ga_methH [some (Vr 0), some (Vi p0), some (Vi p1), some (Vr 88), none] rfl rfl (by decide +kernel) (Nat.le_of_ble_eq_true rfl) rfl ?_
  refine ga_aload_n dL_net_0 rfl ?_
  refine ga_iconst dL_net_1 ⟨by decide, by decide⟩ ?_
  refine ga_aload_n dL_net_2 rfl ?_
  refine ga_iload_n dL_net_3 rfl ?_
  refine ga_iload_n dL_net_4 rfl ?_
  refine ga_callVH hM fX10_net rfl kX10_net lkL_7 dL_net_5 rfl rfl (by omega) (HP_obj rfl) rfl (Nat.le_of_ble_eq_true rfl) (by omega) (by omega) (fun E h2 hX => ?_) ?_
  · obtain ⟨hX, hh⟩ := hX
    rw [hh]
    rcases hX with ⟨q, b⟩ | ⟨q, b⟩ | ⟨q, b⟩
    · rw [q]
      refine ⟨13, 4, 2, hdL_net_1, Or.inl ⟨rfl, dL_net_13⟩, by decide, rfl, ?_⟩
      refine ga_iconst dL_net_15 ⟨by decide, by decide⟩ ?_
      refine ga_ret (v := some _) ?_ rfl (by omega) (by omega) ⟨dL_net_16, _, rfl, rfl⟩
      exact Or.inr ⟨1, b, by decide, rfl, rfl⟩
    · rw [q]
      refine ⟨17, 4, 2, hdL_net_2, Or.inl ⟨rfl, dL_net_17⟩, by decide, rfl, ?_⟩
      refine ga_iconst dL_net_19 ⟨by decide, by decide⟩ ?_
      refine ga_ret (v := some _) ?_ rfl (by omega) (by omega) ⟨dL_net_20, _, rfl, rfl⟩
      exact Or.inr ⟨2, b, by decide, rfl, rfl⟩
    · rw [q]
      refine ⟨21, 4, 2, hdL_net_3, Or.inl ⟨rfl, dL_net_21⟩, by decide, rfl, ?_⟩
      refine ga_iconst dL_net_23 ⟨by decide, by decide⟩ ?_
      refine ga_ret (v := some _) ?_ rfl (by omega) (by omega) ⟨dL_net_24, _, rfl, rfl⟩
      exact Or.inr ⟨3, b, by decide, rfl, rfl⟩
  · rintro v h2 ⟨a, σ1, hok, hv, hh⟩
    rw [hv, hh]
    refine ga_i2l dL_net_8 ?_
    refine hg_last dL_net_9 rfl (by omega) (by omega) ?_
    refine ga_goto (tgt := 25) dL_net_10 rfl ?_
    refine ga_iconst dL_net_25 ⟨by decide, by decide⟩ ?_
    refine ga_ret (v := some _) ?_ rfl (by omega) (by omega) ⟨dL_net_26, _, rfl, rfl⟩
    exact Or.inl ⟨a, σ1, hok, rfl, rfl⟩
theorem hdL_device_1 : ga_Hd mL_device 7 xI 15 := ⟨[], _, _, rfl, (fun z hz => by cases hz), by decide, by decide, hl_91, hc_91, rfl⟩
theorem hdL_device_2 : ga_Hd mL_device 7 xS 19 := ⟨[_], _, _, rfl, (fun z hz => by rw [List.mem_singleton.mp hz]; exact Or.inr ⟨by decide, xI, hl_91, by decide⟩), by decide, by decide, hl_71, hc_71, rfl⟩
theorem hdL_device_3 : ga_Hd mL_device 7 xA 23 := ⟨[_, _], _, _, rfl, (fun z hz => by rcases List.mem_cons.mp hz with q | q; rw [q]; exact Or.inr ⟨by decide, xI, hl_91, by decide⟩; rw [List.mem_singleton.mp q]; exact Or.inr ⟨by decide, xS, hl_71, by decide⟩), by decide, by decide, hl_78, hc_78, rfl⟩
theorem T_L_device (p0 : Int) (p1 : Int) (p2 : UInt64) (σ : ga_S) (ok : Int → ga_S → Prop) (bad : Int → Prop) {t2 m2 s2 : Nat} (ht : t2 ≤ 8) (hm : m2 ≤ 1) (hs : s2 ≤ 6) (hM : ga_Mt t2 m2 s2 mX10_device [Vr 0, Vi p0, Vi p1, Vd p2] (HP σ) (okP ok) (fun E h => ((E = xI ∧ bad 1) ∨ (E = xS ∧ bad 2) ∨ (E = xA ∧ bad 3)) ∧ h = HP σ)) : ga_Mt 9 1 6 mL_device [Vr 0, Vi p0, Vi p1, Vd p2, Vr 88] (HP σ) (WPo ok bad σ) ga_nox := by
  refine ga_methH [some (Vr 0), some (Vi p0), some (Vi p1), some (Vd p2), none, some (Vr 88), none] rfl rfl (by decide +kernel) (Nat.le_of_ble_eq_true rfl) rfl ?_
  refine ga_aload dL_device_0 rfl ?_
  refine ga_iconst dL_device_2 ⟨by decide, by decide⟩ ?_
  refine ga_aload_n dL_device_3 rfl ?_
  refine ga_iload_n dL_device_4 rfl ?_
  refine ga_iload_n dL_device_5 rfl ?_
  refine ga_dload_n dL_device_6 rfl ?_
  refine ga_callVH hM fX10_device rfl kX10_device lkL_19 dL_device_7 rfl rfl (by omega) (HP_obj rfl) rfl (Nat.le_of_ble_eq_true rfl) (by omega) (by omega) (fun E h2 hX => ?_) ?_
  · obtain ⟨hX, hh⟩ := hX
    rw [hh]
    rcases hX with ⟨q, b⟩ | ⟨q, b⟩ | ⟨q, b⟩
    · rw [q]
      refine ⟨15, 6, 2, hdL_device_1, Or.inl ⟨rfl, dL_device_15⟩, by decide, rfl, ?_⟩
      refine ga_iconst dL_device_17 ⟨by decide, by decide⟩ ?_
      refine ga_ret (v := some _) ?_ rfl (by omega) (by omega) ⟨dL_device_18, _, rfl, rfl⟩
      exact Or.inr ⟨1, b, by decide, rfl, rfl⟩
    · rw [q]
      refine ⟨19, 6, 2, hdL_device_2, Or.inl ⟨rfl, dL_device_19⟩, by decide, rfl, ?_⟩
      refine ga_iconst dL_device_21 ⟨by decide, by decide⟩ ?_
      refine ga_ret (v := some _) ?_ rfl (by omega) (by omega) ⟨dL_device_22, _, rfl, rfl⟩
      exact Or.inr ⟨2, b, by decide, rfl, rfl⟩
    · rw [q]
      refine ⟨23, 6, 2, hdL_device_3, Or.inl ⟨rfl, dL_device_23⟩, by decide, rfl, ?_⟩
      refine ga_iconst dL_device_25 ⟨by decide, by decide⟩ ?_
      refine ga_ret (v := some _) ?_ rfl (by omega) (by omega) ⟨dL_device_26, _, rfl, rfl⟩
      exact Or.inr ⟨3, b, by decide, rfl, rfl⟩
  · rintro v h2 ⟨a, σ1, hok, hv, hh⟩
    rw [hv, hh]
    refine ga_i2l dL_device_10 ?_
    refine hg_last dL_device_11 rfl (by omega) (by omega) ?_
    refine ga_goto (tgt := 27) dL_device_12 rfl ?_
    refine ga_iconst dL_device_27 ⟨by decide, by decide⟩ ?_
    refine ga_ret (v := some _) ?_ rfl (by omega) (by omega) ⟨dL_device_28, _, rfl, rfl⟩
    exact Or.inl ⟨a, σ1, hok, rfl, rfl⟩
theorem hdL_pin_1 : ga_Hd mL_pin 9 xI 24 := ⟨[], _, _, rfl, (fun z hz => by cases hz), by decide, by decide, hl_91, hc_91, rfl⟩
theorem T_L_pin (p0 : Int) (p1 : Int) (p2 : Int) (p3 : Int) (σ : ga_S) (ok : Int → ga_S → Prop) (bad : Int → Prop) (hb : ∀ a σ1, ok a σ1 → a = 0 ∨ a = 1) {t2 m2 s2 : Nat} (ht : t2 ≤ 8) (hm : m2 ≤ 1) (hs : s2 ≤ 6) (hM : ga_Mt t2 m2 s2 mX10_pin [Vr 0, Vi p0, Vi p1, Vi p2, Vi p3] (HP σ) (okP ok) (fun E h => ((E = xI ∧ bad 1)) ∧ h = HP σ)) : ga_Mt 9 1 6 mL_pin [Vr 0, Vi p0, Vi p1, Vi p2, Vi p3, Vr 88] (HP σ) (WPo ok bad σ) ga_nox := by
  refine ga_methH [some (Vr 0), some (Vi p0), some (Vi p1), some (Vi p2), some (Vi p3), some (Vr 88), none] rfl rfl (by decide +kernel) (Nat.le_of_ble_eq_true rfl) rfl ?_
  refine ga_aload dL_pin_0 rfl ?_
  refine ga_iconst dL_pin_2 ⟨by decide, by decide⟩ ?_
  refine ga_aload_n dL_pin_3 rfl ?_
  refine ga_iload_n dL_pin_4 rfl ?_
  refine ga_iload_n dL_pin_5 rfl ?_
  refine ga_iload_n dL_pin_6 rfl ?_
  refine ga_iload dL_pin_7 rfl ?_
  refine ga_callVH hM fX10_pin rfl kX10_pin lkL_23 dL_pin_9 rfl rfl (by omega) (HP_obj rfl) rfl (Nat.le_of_ble_eq_true rfl) (by omega) (by omega) (fun E h2 hX => ?_) ?_
  · obtain ⟨hX, hh⟩ := hX
    rw [hh]
    obtain ⟨q, b⟩ := hX
    rw [q]
    refine ⟨24, 6, 2, hdL_pin_1, Or.inl ⟨rfl, dL_pin_24⟩, by decide, rfl, ?_⟩
    refine ga_iconst dL_pin_26 ⟨by decide, by decide⟩ ?_
    refine ga_ret (v := some _) ?_ rfl (by omega) (by omega) ⟨dL_pin_27, _, rfl, rfl⟩
    exact Or.inr ⟨1, b, by decide, rfl, rfl⟩
  · rintro v h2 ⟨a, σ1, hok, hv, hh⟩
    rw [hv, hh]
    refine ga_if_eq (tgt := 19) dL_pin_12 rfl (fun c_12 => ?_) (fun c_12 => ?_)
    · refine ga_lconst (z := (0)) dL_pin_19 ⟨by decide, by decide⟩ rfl ?_
      refine hg_last dL_pin_20 rfl (by omega) (by omega) ?_
      refine ga_goto (tgt := 28) dL_pin_21 rfl ?_
      refine ga_iconst dL_pin_28 ⟨by decide, by decide⟩ ?_
      refine ga_ret (v := some _) ?_ rfl (by omega) (by omega) ⟨dL_pin_29, _, rfl, rfl⟩
      exact Or.inl ⟨a, σ1, hok, rfl, by rw [show a = 0 from c_12]⟩
    · refine ga_lconst (z := (1)) dL_pin_15 ⟨by decide, by decide⟩ rfl ?_
      refine ga_goto (tgt := 20) dL_pin_16 rfl ?_
      refine hg_last dL_pin_20 rfl (by omega) (by omega) ?_
      refine ga_goto (tgt := 28) dL_pin_21 rfl ?_
      refine ga_iconst dL_pin_28 ⟨by decide, by decide⟩ ?_
      refine ga_ret (v := some _) ?_ rfl (by omega) (by omega) ⟨dL_pin_29, _, rfl, rfl⟩
      exact Or.inl ⟨a, σ1, hok, rfl, by rw [show a = 1 from (hb a σ1 hok).resolve_left c_12]⟩
theorem hdL_swap_1 : ga_Hd mL_swap 7 xI 22 := ⟨[], _, _, rfl, (fun z hz => by cases hz), by decide, by decide, hl_91, hc_91, rfl⟩
theorem T_L_swap (p0 : Int) (p1 : Int) (p2 : Int) (σ : ga_S) (ok : Int → ga_S → Prop) (bad : Int → Prop) (hb : ∀ a σ1, ok a σ1 → a = 0 ∨ a = 1) {t2 m2 s2 : Nat} (ht : t2 ≤ 8) (hm : m2 ≤ 1) (hs : s2 ≤ 6) (hM : ga_Mt t2 m2 s2 mX10_swap [Vr 0, Vi p0, Vi p1, Vi p2] (HP σ) (okP ok) (fun E h => ((E = xI ∧ bad 1)) ∧ h = HP σ)) : ga_Mt 9 1 6 mL_swap [Vr 0, Vi p0, Vi p1, Vi p2, Vr 88] (HP σ) (WPo ok bad σ) ga_nox := by
  refine ga_methH [some (Vr 0), some (Vi p0), some (Vi p1), some (Vi p2), some (Vr 88), none] rfl rfl (by decide +kernel) (Nat.le_of_ble_eq_true rfl) rfl ?_
  refine ga_aload dL_swap_0 rfl ?_
  refine ga_iconst dL_swap_2 ⟨by decide, by decide⟩ ?_
  refine ga_aload_n dL_swap_3 rfl ?_
  refine ga_iload_n dL_swap_4 rfl ?_
  refine ga_iload_n dL_swap_5 rfl ?_
  refine ga_iload_n dL_swap_6 rfl ?_
  refine ga_callVH hM fX10_swap rfl kX10_swap lkL_27 dL_swap_7 rfl rfl (by omega) (HP_obj rfl) rfl (Nat.le_of_ble_eq_true rfl) (by omega) (by omega) (fun E h2 hX => ?_) ?_
  · obtain ⟨hX, hh⟩ := hX
    rw [hh]
    obtain ⟨q, b⟩ := hX
    rw [q]
    refine ⟨22, 5, 2, hdL_swap_1, Or.inl ⟨rfl, dL_swap_22⟩, by decide, rfl, ?_⟩
    refine ga_iconst dL_swap_24 ⟨by decide, by decide⟩ ?_
    refine ga_ret (v := some _) ?_ rfl (by omega) (by omega) ⟨dL_swap_25, _, rfl, rfl⟩
    exact Or.inr ⟨1, b, by decide, rfl, rfl⟩
  · rintro v h2 ⟨a, σ1, hok, hv, hh⟩
    rw [hv, hh]
    refine ga_if_eq (tgt := 17) dL_swap_10 rfl (fun c_10 => ?_) (fun c_10 => ?_)
    · refine ga_lconst (z := (0)) dL_swap_17 ⟨by decide, by decide⟩ rfl ?_
      refine hg_last dL_swap_18 rfl (by omega) (by omega) ?_
      refine ga_goto (tgt := 26) dL_swap_19 rfl ?_
      refine ga_iconst dL_swap_26 ⟨by decide, by decide⟩ ?_
      refine ga_ret (v := some _) ?_ rfl (by omega) (by omega) ⟨dL_swap_27, _, rfl, rfl⟩
      exact Or.inl ⟨a, σ1, hok, rfl, by rw [show a = 0 from c_10]⟩
    · refine ga_lconst (z := (1)) dL_swap_13 ⟨by decide, by decide⟩ rfl ?_
      refine ga_goto (tgt := 18) dL_swap_14 rfl ?_
      refine hg_last dL_swap_18 rfl (by omega) (by omega) ?_
      refine ga_goto (tgt := 26) dL_swap_19 rfl ?_
      refine ga_iconst dL_swap_26 ⟨by decide, by decide⟩ ?_
      refine ga_ret (v := some _) ?_ rfl (by omega) (by omega) ⟨dL_swap_27, _, rfl, rfl⟩
      exact Or.inl ⟨a, σ1, hok, rfl, by rw [show a = 1 from (hb a σ1 hok).resolve_left c_10]⟩
theorem hdL_share_1 : ga_Hd mL_share 6 xI 21 := ⟨[], _, _, rfl, (fun z hz => by cases hz), by decide, by decide, hl_91, hc_91, rfl⟩
theorem hdL_share_2 : ga_Hd mL_share 6 xA 25 := ⟨[_], _, _, rfl, (fun z hz => by rw [List.mem_singleton.mp hz]; exact Or.inr ⟨by decide, xI, hl_91, by decide⟩), by decide, by decide, hl_78, hc_78, rfl⟩
theorem T_L_share (p0 : Int) (p1 : UInt64) (σ : ga_S) (ok : Int → ga_S → Prop) (bad : Int → Prop) (hb : ∀ a σ1, ok a σ1 → a = 0 ∨ a = 1) {t2 m2 s2 : Nat} (ht : t2 ≤ 8) (hm : m2 ≤ 1) (hs : s2 ≤ 6) (hM : ga_Mt t2 m2 s2 mX10_share [Vr 0, Vi p0, Vd p1] (HP σ) (okP ok) (fun E h => ((E = xI ∧ bad 1) ∨ (E = xA ∧ bad 2)) ∧ h = HP σ)) : ga_Mt 9 1 6 mL_share [Vr 0, Vi p0, Vd p1, Vr 88] (HP σ) (WPo ok bad σ) ga_nox := by
  refine ga_methH [some (Vr 0), some (Vi p0), some (Vd p1), none, some (Vr 88), none] rfl rfl (by decide +kernel) (Nat.le_of_ble_eq_true rfl) rfl ?_
  refine ga_aload dL_share_0 rfl ?_
  refine ga_iconst dL_share_2 ⟨by decide, by decide⟩ ?_
  refine ga_aload_n dL_share_3 rfl ?_
  refine ga_iload_n dL_share_4 rfl ?_
  refine ga_dload_n dL_share_5 rfl ?_
  refine ga_callVH hM fX10_share rfl kX10_share lkL_31 dL_share_6 rfl rfl (by omega) (HP_obj rfl) rfl (Nat.le_of_ble_eq_true rfl) (by omega) (by omega) (fun E h2 hX => ?_) ?_
  · obtain ⟨hX, hh⟩ := hX
    rw [hh]
    rcases hX with ⟨q, b⟩ | ⟨q, b⟩
    · rw [q]
      refine ⟨21, 5, 2, hdL_share_1, Or.inl ⟨rfl, dL_share_21⟩, by decide, rfl, ?_⟩
      refine ga_iconst dL_share_23 ⟨by decide, by decide⟩ ?_
      refine ga_ret (v := some _) ?_ rfl (by omega) (by omega) ⟨dL_share_24, _, rfl, rfl⟩
      exact Or.inr ⟨1, b, by decide, rfl, rfl⟩
    · rw [q]
      refine ⟨25, 5, 2, hdL_share_2, Or.inl ⟨rfl, dL_share_25⟩, by decide, rfl, ?_⟩
      refine ga_iconst dL_share_27 ⟨by decide, by decide⟩ ?_
      refine ga_ret (v := some _) ?_ rfl (by omega) (by omega) ⟨dL_share_28, _, rfl, rfl⟩
      exact Or.inr ⟨2, b, by decide, rfl, rfl⟩
  · rintro v h2 ⟨a, σ1, hok, hv, hh⟩
    rw [hv, hh]
    refine ga_if_eq (tgt := 16) dL_share_9 rfl (fun c_9 => ?_) (fun c_9 => ?_)
    · refine ga_lconst (z := (0)) dL_share_16 ⟨by decide, by decide⟩ rfl ?_
      refine hg_last dL_share_17 rfl (by omega) (by omega) ?_
      refine ga_goto (tgt := 29) dL_share_18 rfl ?_
      refine ga_iconst dL_share_29 ⟨by decide, by decide⟩ ?_
      refine ga_ret (v := some _) ?_ rfl (by omega) (by omega) ⟨dL_share_30, _, rfl, rfl⟩
      exact Or.inl ⟨a, σ1, hok, rfl, by rw [show a = 0 from c_9]⟩
    · refine ga_lconst (z := (1)) dL_share_12 ⟨by decide, by decide⟩ rfl ?_
      refine ga_goto (tgt := 17) dL_share_13 rfl ?_
      refine hg_last dL_share_17 rfl (by omega) (by omega) ?_
      refine ga_goto (tgt := 29) dL_share_18 rfl ?_
      refine ga_iconst dL_share_29 ⟨by decide, by decide⟩ ?_
      refine ga_ret (v := some _) ?_ rfl (by omega) (by omega) ⟨dL_share_30, _, rfl, rfl⟩
      exact Or.inl ⟨a, σ1, hok, rfl, by rw [show a = 1 from (hb a σ1 hok).resolve_left c_9]⟩
theorem hdL_port_1 : ga_Hd mL_port 7 xI 22 := ⟨[], _, _, rfl, (fun z hz => by cases hz), by decide, by decide, hl_91, hc_91, rfl⟩
theorem hdL_port_2 : ga_Hd mL_port 7 xA 26 := ⟨[_], _, _, rfl, (fun z hz => by rw [List.mem_singleton.mp hz]; exact Or.inr ⟨by decide, xI, hl_91, by decide⟩), by decide, by decide, hl_78, hc_78, rfl⟩
theorem T_L_port (p0 : Int) (p1 : Int) (p2 : Int) (σ : ga_S) (ok : Int → ga_S → Prop) (bad : Int → Prop) (hb : ∀ a σ1, ok a σ1 → a = 0 ∨ a = 1) {t2 m2 s2 : Nat} (ht : t2 ≤ 8) (hm : m2 ≤ 1) (hs : s2 ≤ 6) (hM : ga_Mt t2 m2 s2 mX10_port [Vr 0, Vi p0, Vi p1, Vi p2] (HP σ) (okP ok) (fun E h => ((E = xI ∧ bad 1) ∨ (E = xA ∧ bad 2)) ∧ h = HP σ)) : ga_Mt 9 1 6 mL_port [Vr 0, Vi p0, Vi p1, Vi p2, Vr 88] (HP σ) (WPo ok bad σ) ga_nox := by
  refine ga_methH [some (Vr 0), some (Vi p0), some (Vi p1), some (Vi p2), some (Vr 88), none] rfl rfl (by decide +kernel) (Nat.le_of_ble_eq_true rfl) rfl ?_
  refine ga_aload dL_port_0 rfl ?_
  refine ga_iconst dL_port_2 ⟨by decide, by decide⟩ ?_
  refine ga_aload_n dL_port_3 rfl ?_
  refine ga_iload_n dL_port_4 rfl ?_
  refine ga_iload_n dL_port_5 rfl ?_
  refine ga_iload_n dL_port_6 rfl ?_
  refine ga_callVH hM fX10_port rfl kX10_port lkL_35 dL_port_7 rfl rfl (by omega) (HP_obj rfl) rfl (Nat.le_of_ble_eq_true rfl) (by omega) (by omega) (fun E h2 hX => ?_) ?_
  · obtain ⟨hX, hh⟩ := hX
    rw [hh]
    rcases hX with ⟨q, b⟩ | ⟨q, b⟩
    · rw [q]
      refine ⟨22, 5, 2, hdL_port_1, Or.inl ⟨rfl, dL_port_22⟩, by decide, rfl, ?_⟩
      refine ga_iconst dL_port_24 ⟨by decide, by decide⟩ ?_
      refine ga_ret (v := some _) ?_ rfl (by omega) (by omega) ⟨dL_port_25, _, rfl, rfl⟩
      exact Or.inr ⟨1, b, by decide, rfl, rfl⟩
    · rw [q]
      refine ⟨26, 5, 2, hdL_port_2, Or.inl ⟨rfl, dL_port_26⟩, by decide, rfl, ?_⟩
      refine ga_iconst dL_port_28 ⟨by decide, by decide⟩ ?_
      refine ga_ret (v := some _) ?_ rfl (by omega) (by omega) ⟨dL_port_29, _, rfl, rfl⟩
      exact Or.inr ⟨2, b, by decide, rfl, rfl⟩
  · rintro v h2 ⟨a, σ1, hok, hv, hh⟩
    rw [hv, hh]
    refine ga_if_eq (tgt := 17) dL_port_10 rfl (fun c_10 => ?_) (fun c_10 => ?_)
    · refine ga_lconst (z := (0)) dL_port_17 ⟨by decide, by decide⟩ rfl ?_
      refine hg_last dL_port_18 rfl (by omega) (by omega) ?_
      refine ga_goto (tgt := 30) dL_port_19 rfl ?_
      refine ga_iconst dL_port_30 ⟨by decide, by decide⟩ ?_
      refine ga_ret (v := some _) ?_ rfl (by omega) (by omega) ⟨dL_port_31, _, rfl, rfl⟩
      exact Or.inl ⟨a, σ1, hok, rfl, by rw [show a = 0 from c_10]⟩
    · refine ga_lconst (z := (1)) dL_port_13 ⟨by decide, by decide⟩ rfl ?_
      refine ga_goto (tgt := 18) dL_port_14 rfl ?_
      refine hg_last dL_port_18 rfl (by omega) (by omega) ?_
      refine ga_goto (tgt := 30) dL_port_19 rfl ?_
      refine ga_iconst dL_port_30 ⟨by decide, by decide⟩ ?_
      refine ga_ret (v := some _) ?_ rfl (by omega) (by omega) ⟨dL_port_31, _, rfl, rfl⟩
      exact Or.inl ⟨a, σ1, hok, rfl, by rw [show a = 1 from (hb a σ1 hok).resolve_left c_10]⟩
theorem hdL_join_1 : ga_Hd mL_join 5 xI 13 := ⟨[], _, _, rfl, (fun z hz => by cases hz), by decide, by decide, hl_91, hc_91, rfl⟩
theorem hdL_join_2 : ga_Hd mL_join 5 xA 17 := ⟨[_], _, _, rfl, (fun z hz => by rw [List.mem_singleton.mp hz]; exact Or.inr ⟨by decide, xI, hl_91, by decide⟩), by decide, by decide, hl_78, hc_78, rfl⟩
theorem T_L_join (p0 : Int) (p1 : Int) (σ : ga_S) (ok : Int → ga_S → Prop) (bad : Int → Prop) {t2 m2 s2 : Nat} (ht : t2 ≤ 8) (hm : m2 ≤ 1) (hs : s2 ≤ 6) (hM : ga_Mt t2 m2 s2 mX10_join [Vr 0, Vi p0, Vi p1] (HP σ) (okP ok) (fun E h => ((E = xI ∧ bad 1) ∨ (E = xA ∧ bad 2)) ∧ h = HP σ)) : ga_Mt 9 1 6 mL_join [Vr 0, Vi p0, Vi p1, Vr 88] (HP σ) (WPo ok bad σ) ga_nox := by
  refine ga_methH [some (Vr 0), some (Vi p0), some (Vi p1), some (Vr 88), none] rfl rfl (by decide +kernel) (Nat.le_of_ble_eq_true rfl) rfl ?_
  refine ga_aload_n dL_join_0 rfl ?_
  refine ga_iconst dL_join_1 ⟨by decide, by decide⟩ ?_
  refine ga_aload_n dL_join_2 rfl ?_
  refine ga_iload_n dL_join_3 rfl ?_
  refine ga_iload_n dL_join_4 rfl ?_
  refine ga_callVH hM fX10_join rfl kX10_join lkL_38 dL_join_5 rfl rfl (by omega) (HP_obj rfl) rfl (Nat.le_of_ble_eq_true rfl) (by omega) (by omega) (fun E h2 hX => ?_) ?_
  · obtain ⟨hX, hh⟩ := hX
    rw [hh]
    rcases hX with ⟨q, b⟩ | ⟨q, b⟩
    · rw [q]
      refine ⟨13, 4, 2, hdL_join_1, Or.inl ⟨rfl, dL_join_13⟩, by decide, rfl, ?_⟩
      refine ga_iconst dL_join_15 ⟨by decide, by decide⟩ ?_
      refine ga_ret (v := some _) ?_ rfl (by omega) (by omega) ⟨dL_join_16, _, rfl, rfl⟩
      exact Or.inr ⟨1, b, by decide, rfl, rfl⟩
    · rw [q]
      refine ⟨17, 4, 2, hdL_join_2, Or.inl ⟨rfl, dL_join_17⟩, by decide, rfl, ?_⟩
      refine ga_iconst dL_join_19 ⟨by decide, by decide⟩ ?_
      refine ga_ret (v := some _) ?_ rfl (by omega) (by omega) ⟨dL_join_20, _, rfl, rfl⟩
      exact Or.inr ⟨2, b, by decide, rfl, rfl⟩
  · rintro v h2 ⟨a, σ1, hok, hv, hh⟩
    rw [hv, hh]
    refine ga_i2l dL_join_8 ?_
    refine hg_last dL_join_9 rfl (by omega) (by omega) ?_
    refine ga_goto (tgt := 21) dL_join_10 rfl ?_
    refine ga_iconst dL_join_21 ⟨by decide, by decide⟩ ?_
    refine ga_ret (v := some _) ?_ rfl (by omega) (by omega) ⟨dL_join_22, _, rfl, rfl⟩
    exact Or.inl ⟨a, σ1, hok, rfl, rfl⟩
theorem hdL_run_1 : ga_Hd mL_run 4 xA 12 := ⟨[], _, _, rfl, (fun z hz => by cases hz), by decide, by decide, hl_78, hc_78, rfl⟩
theorem T_L_run (p0 : Int) (σ : ga_S) (ok : Int → ga_S → Prop) (bad : Int → Prop) {t2 m2 s2 : Nat} (ht : t2 ≤ 8) (hm : m2 ≤ 1) (hs : s2 ≤ 6) (hM : ga_Mt t2 m2 s2 mX10_run [Vr 0, Vl p0] (HP σ) (okP ok) (fun E h => ((E = xA ∧ bad 1)) ∧ h = HP σ)) : ga_Mt 9 1 6 mL_run [Vr 0, Vl p0, Vr 88] (HP σ) (WPo ok bad σ) ga_nox := by
  refine ga_methH [some (Vr 0), some (Vl p0), none, some (Vr 88), none] rfl rfl (by decide +kernel) (Nat.le_of_ble_eq_true rfl) rfl ?_
  refine ga_aload_n dL_run_0 rfl ?_
  refine ga_iconst dL_run_1 ⟨by decide, by decide⟩ ?_
  refine ga_aload_n dL_run_2 rfl ?_
  refine ga_lload_n dL_run_3 rfl ?_
  refine ga_callVH hM fX10_run rfl kX10_run lkL_41 dL_run_4 rfl rfl (by omega) (HP_obj rfl) rfl (Nat.le_of_ble_eq_true rfl) (by omega) (by omega) (fun E h2 hX => ?_) ?_
  · obtain ⟨hX, hh⟩ := hX
    rw [hh]
    obtain ⟨q, b⟩ := hX
    rw [q]
    refine ⟨12, 4, 2, hdL_run_1, Or.inl ⟨rfl, dL_run_12⟩, by decide, rfl, ?_⟩
    refine ga_iconst dL_run_14 ⟨by decide, by decide⟩ ?_
    refine ga_ret (v := some _) ?_ rfl (by omega) (by omega) ⟨dL_run_15, _, rfl, rfl⟩
    exact Or.inr ⟨1, b, by decide, rfl, rfl⟩
  · rintro v h2 ⟨a, σ1, hok, hv, hh⟩
    rw [hv, hh]
    refine ga_i2l dL_run_7 ?_
    refine hg_last dL_run_8 rfl (by omega) (by omega) ?_
    refine ga_goto (tgt := 16) dL_run_9 rfl ?_
    refine ga_iconst dL_run_16 ⟨by decide, by decide⟩ ?_
    refine ga_ret (v := some _) ?_ rfl (by omega) (by omega) ⟨dL_run_17, _, rfl, rfl⟩
    exact Or.inl ⟨a, σ1, hok, rfl, rfl⟩
theorem hdL_match_1 : ga_Hd mL_match 5 xI 13 := ⟨[], _, _, rfl, (fun z hz => by cases hz), by decide, by decide, hl_91, hc_91, rfl⟩
theorem T_L_match (p0 : Int) (p1 : Int) (σ : ga_S) (ok : Int → ga_S → Prop) (bad : Int → Prop) {t2 m2 s2 : Nat} (ht : t2 ≤ 8) (hm : m2 ≤ 1) (hs : s2 ≤ 6) (hM : ga_Mt t2 m2 s2 mX10_match [Vr 0, Vi p0, Vi p1] (HP σ) (okP ok) (fun E h => ((E = xI ∧ bad 1)) ∧ h = HP σ)) : ga_Mt 9 1 6 mL_match [Vr 0, Vi p0, Vi p1, Vr 88] (HP σ) (WPo ok bad σ) ga_nox := by
  refine ga_methH [some (Vr 0), some (Vi p0), some (Vi p1), some (Vr 88), none] rfl rfl (by decide +kernel) (Nat.le_of_ble_eq_true rfl) rfl ?_
  refine ga_aload_n dL_match_0 rfl ?_
  refine ga_iconst dL_match_1 ⟨by decide, by decide⟩ ?_
  refine ga_aload_n dL_match_2 rfl ?_
  refine ga_iload_n dL_match_3 rfl ?_
  refine ga_iload_n dL_match_4 rfl ?_
  refine ga_callVH hM fX10_match rfl kX10_match lkL_45 dL_match_5 rfl rfl (by omega) (HP_obj rfl) rfl (Nat.le_of_ble_eq_true rfl) (by omega) (by omega) (fun E h2 hX => ?_) ?_
  · obtain ⟨hX, hh⟩ := hX
    rw [hh]
    obtain ⟨q, b⟩ := hX
    rw [q]
    refine ⟨13, 4, 2, hdL_match_1, Or.inl ⟨rfl, dL_match_13⟩, by decide, rfl, ?_⟩
    refine ga_iconst dL_match_15 ⟨by decide, by decide⟩ ?_
    refine ga_ret (v := some _) ?_ rfl (by omega) (by omega) ⟨dL_match_16, _, rfl, rfl⟩
    exact Or.inr ⟨1, b, by decide, rfl, rfl⟩
  · rintro v h2 ⟨a, σ1, hok, hv, hh⟩
    rw [hv, hh]
    refine ga_i2l dL_match_8 ?_
    refine hg_last dL_match_9 rfl (by omega) (by omega) ?_
    refine ga_goto (tgt := 17) dL_match_10 rfl ?_
    refine ga_iconst dL_match_17 ⟨by decide, by decide⟩ ?_
    refine ga_ret (v := some _) ?_ rfl (by omega) (by omega) ⟨dL_match_18, _, rfl, rfl⟩
    exact Or.inl ⟨a, σ1, hok, rfl, rfl⟩
theorem hdL_netMatch_1 : ga_Hd mL_netMatch 4 xI 12 := ⟨[], _, _, rfl, (fun z hz => by cases hz), by decide, by decide, hl_91, hc_91, rfl⟩
theorem T_L_netMatch (p0 : Int) (σ : ga_S) (ok : Int → ga_S → Prop) (bad : Int → Prop) {t2 m2 s2 : Nat} (ht : t2 ≤ 8) (hm : m2 ≤ 1) (hs : s2 ≤ 6) (hM : ga_Mt t2 m2 s2 mX10_netMatch [Vr 0, Vi p0] (HP σ) (okP ok) (fun E h => ((E = xI ∧ bad 1)) ∧ h = HP σ)) : ga_Mt 9 1 6 mL_netMatch [Vr 0, Vi p0, Vr 88] (HP σ) (WPo ok bad σ) ga_nox := by
  refine ga_methH [some (Vr 0), some (Vi p0), some (Vr 88), none] rfl rfl (by decide +kernel) (Nat.le_of_ble_eq_true rfl) rfl ?_
  refine ga_aload_n dL_netMatch_0 rfl ?_
  refine ga_iconst dL_netMatch_1 ⟨by decide, by decide⟩ ?_
  refine ga_aload_n dL_netMatch_2 rfl ?_
  refine ga_iload_n dL_netMatch_3 rfl ?_
  refine ga_callVH hM fX10_netMatch rfl kX10_netMatch lkL_48 dL_netMatch_4 rfl rfl (by omega) (HP_obj rfl) rfl (Nat.le_of_ble_eq_true rfl) (by omega) (by omega) (fun E h2 hX => ?_) ?_
  · obtain ⟨hX, hh⟩ := hX
    rw [hh]
    obtain ⟨q, b⟩ := hX
    rw [q]
    refine ⟨12, 3, 1, hdL_netMatch_1, Or.inr ⟨rfl, 3, rfl, dL_netMatch_12⟩, by decide, rfl, ?_⟩
    refine ga_iconst dL_netMatch_13 ⟨by decide, by decide⟩ ?_
    refine ga_ret (v := some _) ?_ rfl (by omega) (by omega) ⟨dL_netMatch_14, _, rfl, rfl⟩
    exact Or.inr ⟨1, b, by decide, rfl, rfl⟩
  · rintro v h2 ⟨a, σ1, hok, hv, hh⟩
    rw [hv, hh]
    refine ga_i2l dL_netMatch_7 ?_
    refine hg_last dL_netMatch_8 rfl (by omega) (by omega) ?_
    refine ga_goto (tgt := 15) dL_netMatch_9 rfl ?_
    refine ga_iconst dL_netMatch_15 ⟨by decide, by decide⟩ ?_
    refine ga_ret (v := some _) ?_ rfl (by omega) (by omega) ⟨dL_netMatch_16, _, rfl, rfl⟩
    exact Or.inl ⟨a, σ1, hok, rfl, rfl⟩
theorem hdL_differs_1 : ga_Hd mL_differs 5 xI 13 := ⟨[], _, _, rfl, (fun z hz => by cases hz), by decide, by decide, hl_91, hc_91, rfl⟩
theorem T_L_differs (p0 : Int) (p1 : Int) (σ : ga_S) (ok : Int → ga_S → Prop) (bad : Int → Prop) {t2 m2 s2 : Nat} (ht : t2 ≤ 8) (hm : m2 ≤ 1) (hs : s2 ≤ 6) (hM : ga_Mt t2 m2 s2 mX10_differs [Vr 0, Vi p0, Vi p1] (HP σ) (okP ok) (fun E h => ((E = xI ∧ bad 1)) ∧ h = HP σ)) : ga_Mt 9 1 6 mL_differs [Vr 0, Vi p0, Vi p1, Vr 88] (HP σ) (WPo ok bad σ) ga_nox := by
  refine ga_methH [some (Vr 0), some (Vi p0), some (Vi p1), some (Vr 88), none] rfl rfl (by decide +kernel) (Nat.le_of_ble_eq_true rfl) rfl ?_
  refine ga_aload_n dL_differs_0 rfl ?_
  refine ga_iconst dL_differs_1 ⟨by decide, by decide⟩ ?_
  refine ga_aload_n dL_differs_2 rfl ?_
  refine ga_iload_n dL_differs_3 rfl ?_
  refine ga_iload_n dL_differs_4 rfl ?_
  refine ga_callVH hM fX10_differs rfl kX10_differs lkL_52 dL_differs_5 rfl rfl (by omega) (HP_obj rfl) rfl (Nat.le_of_ble_eq_true rfl) (by omega) (by omega) (fun E h2 hX => ?_) ?_
  · obtain ⟨hX, hh⟩ := hX
    rw [hh]
    obtain ⟨q, b⟩ := hX
    rw [q]
    refine ⟨13, 4, 2, hdL_differs_1, Or.inl ⟨rfl, dL_differs_13⟩, by decide, rfl, ?_⟩
    refine ga_iconst dL_differs_15 ⟨by decide, by decide⟩ ?_
    refine ga_ret (v := some _) ?_ rfl (by omega) (by omega) ⟨dL_differs_16, _, rfl, rfl⟩
    exact Or.inr ⟨1, b, by decide, rfl, rfl⟩
  · rintro v h2 ⟨a, σ1, hok, hv, hh⟩
    rw [hv, hh]
    refine ga_i2l dL_differs_8 ?_
    refine hg_last dL_differs_9 rfl (by omega) (by omega) ?_
    refine ga_goto (tgt := 17) dL_differs_10 rfl ?_
    refine ga_iconst dL_differs_17 ⟨by decide, by decide⟩ ?_
    refine ga_ret (v := some _) ?_ rfl (by omega) (by omega) ⟨dL_differs_18, _, rfl, rfl⟩
    exact Or.inl ⟨a, σ1, hok, rfl, rfl⟩
