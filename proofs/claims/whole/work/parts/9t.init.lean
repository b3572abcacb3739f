-- the constructors, over a heap 'h ++ [..]'
def grF (m : Nat) : Int → Int := fun j => if 0 ≤ j ∧ j < m then j % 4 else 0
theorem grF_0 : grF 0 = fun _ => 0 := by
  funext j
  unfold grF
  rw [if_neg (by omega)]
theorem grF_s (i : Nat) : ga_up (grF i) (i : Int) ((i : Int) % 4) = grF (i + 1) := by
  funext j
  unfold ga_up grF
  by_cases q : j = i
  · rw [if_pos q, if_pos (by omega), q]
  · rw [if_neg q]
    by_cases w : 0 ≤ j ∧ j < (i : Int)
    · rw [if_pos w, if_pos (by omega)]
    · rw [if_neg w, if_neg (by omega)]
section Gb
variable {t mc ms kc ks pc : Nat} {M : ga_M0} {P : ga_Po} {X : ga_Px} {lv : List (Option ga_V)} {st : List ga_V} {h l : ga_H} {q : Nat}
theorem gb_at {k : Nat} {c : ga_K} (hl : h.length = q) (e : l[k]? = some c) : (h ++ l)[q + k]? = some c := by
  rw [List.getElem?_append_right (by omega), show q + k - h.length = k by omega]
  exact e
theorem gb_set {k : Nat} {c : ga_K} (hl : h.length = q) : (h ++ l).set (q + k) c = h ++ l.set k c := by
  rw [List.set_append_right _ _ (by omega), show q + k - h.length = k by omega]
theorem gb_get (k : Nat) {r : Nat} (hl : h.length = q) (hr : r = q + k) {idx ci j : Nat} {ty : FieldType} {fs : List ga_V} {v : ga_V} (hF : ga_FR (ga_y M).cls idx ci j ty) (hd : decode (ga_b M) pc = .ok (.getfield idx, 3)) (hq : l[k]? = some (.inl (ci, fs))) (hj : fs[j]? = some v) (kk : ga_W t mc ms kc ks M P X (pc + 3) lv (v :: st) (h ++ l)) : ga_W t mc ms kc ks M P X pc lv (Vr r :: st) (h ++ l) := by
  subst hr
  exact ga_get hF hd (gb_at hl hq) hj kk
theorem gb_put (k : Nat) (l2 : ga_H) {r : Nat} (hl : h.length = q) (hr : r = q + k) {idx ci j : Nat} {ty : FieldType} {fs : List ga_V} {v : ga_V} (hF : ga_FS (ga_y M).cls idx ci j false ty) (hd : decode (ga_b M) pc = .ok (.putfield idx, 3)) (hq : l[k]? = some (.inl (ci, fs))) (hj : j < fs.length) (hn : ∀ ad, narrow ty (ga_v ad v) = ga_v ad v) (hf : ∀ ad, fits ty (ga_v ad v) = true) (hh : l.set k (.inl (ci, fs.set j v)) = l2) (kk : ga_W t mc ms kc ks M P X (pc + 3) lv st (h ++ l2)) : ga_W t mc ms kc ks M P X pc lv (v :: Vr r :: st) (h ++ l) := by
  subst hr
  exact ga_put hF hd (gb_at hl hq) hj hn hf ((gb_set hl).trans (by rw [hh])) kk
theorem gb_putF (k : Nat) (l2 : ga_H) {r : Nat} (hl : h.length = q) (hr : r = q + k) {idx ci j : Nat} {ty : FieldType} {fs : List ga_V} {v : ga_V} (hF : ga_FS (ga_y M).cls idx ci j true ty) (hd : decode (ga_b M) pc = .ok (.putfield idx, 3)) (hi2 : (ga_y M).name = "<init>") (hq : l[k]? = some (.inl (ci, fs))) (hj : j < fs.length) (hn : ∀ ad, narrow ty (ga_v ad v) = ga_v ad v) (hf : ∀ ad, fits ty (ga_v ad v) = true) (hh : l.set k (.inl (ci, fs.set j v)) = l2) (kk : ga_W t mc ms kc ks M P X (pc + 3) lv st (h ++ l2)) : ga_W t mc ms kc ks M P X pc lv (v :: Vr r :: st) (h ++ l) := by
  subst hr
  exact ga_putF hF hd hi2 (gb_at hl hq) hj hn hf ((gb_set hl).trans (by rw [hh])) kk
theorem gb_iast (k : Nat) (l2 : ga_H) {r : Nat} (hl : h.length = q) (hr : r = q + k) {n : Nat} {i x : Int} {f g : Int → Int} (hd : decode (ga_b M) pc = .ok (.iastore, 1)) (hq : l[k]? = some (.inr (.inl (0, n, f)))) (h0 : 0 ≤ i) (h1 : i < n) (hg : ga_up f i x = g) (hh : l.set k (.inr (.inl (0, n, g))) = l2) (kk : ga_W t mc ms kc ks M P X (pc + 1) lv st (h ++ l2)) : ga_W t mc ms kc ks M P X pc lv (Vi x :: Vi i :: Vr r :: st) (h ++ l) := by
  subst hr
  exact ga_iastore hd (gb_at hl hq) h0 h1 ((gb_set hl).trans (by rw [hg, hh])) kk
theorem gb_new (n : Nat) (l2 : ga_H) (hl : h.length = q) (hq9 : q ≤ 1000) (hn : l.length = n) {idx ci N : Nat} {fs : List ga_V} (hN : ga_NS (ga_y M).cls idx ci N fs) (hd : decode (ga_b M) pc = .ok (.new idx, 3)) (hkc : kc + 1 ≤ mc) (hks : ks + N ≤ ms) (h9 : n ≤ 1000) (hh : l ++ [.inl (ci, fs)] = l2) (kk : ga_W t mc ms (kc + 1) (ks + N) M P X (pc + 3) lv (Vr (q + n) :: st) (h ++ l2)) : ga_W t mc ms kc ks M P X pc lv st (h ++ l) := by
  have e : (h ++ l).length = q + n := by rw [List.length_append, hl, hn]
  refine ga_new hN hd hkc hks (by omega) ((List.append_assoc h l _).trans (by rw [hh])) ?_
  rw [e]
  exact kk
theorem gb_newa_int (nn : Nat) (n : Nat) (l2 : ga_H) (hl : h.length = q) (hq9 : q ≤ 1000) (hn : l.length = nn) {z : Int} (harr : Cond.arrayClass .int ∈ ga_big) (hd : decode (ga_b M) pc = .ok (.newarray .int, 2)) (hz : z = (n : Int)) (hnb : n ≤ 60000) (hkc : kc + 1 ≤ mc) (hks : ks + n ≤ ms) (h9 : nn ≤ 1000) (hh : l ++ [.inr (.inl (0, n, fun _ => 0))] = l2) (kk : ga_W t mc ms (kc + 1) (ks + n) M P X (pc + 2) lv (Vr (q + nn) :: st) (h ++ l2)) : ga_W t mc ms kc ks M P X pc lv (Vi z :: st) (h ++ l) := by
  have e : (h ++ l).length = q + nn := by rw [List.length_append, hl, hn]
  refine ga_newa_int harr hd hz hnb hkc hks (by omega) ((List.append_assoc h l _).trans (by rw [hh])) ?_
  rw [e]
  exact kk
theorem gb_newa_bool (nn : Nat) (n : Nat) (l2 : ga_H) (hl : h.length = q) (hq9 : q ≤ 1000) (hn : l.length = nn) {z : Int} (harr : Cond.arrayClass .boolean ∈ ga_big) (hd : decode (ga_b M) pc = .ok (.newarray .boolean, 2)) (hz : z = (n : Int)) (hnb : n ≤ 60000) (hkc : kc + 1 ≤ mc) (hks : ks + n ≤ ms) (h9 : nn ≤ 1000) (hh : l ++ [.inr (.inl (1, n, fun _ => 0))] = l2) (kk : ga_W t mc ms (kc + 1) (ks + n) M P X (pc + 2) lv (Vr (q + nn) :: st) (h ++ l2)) : ga_W t mc ms kc ks M P X pc lv (Vi z :: st) (h ++ l) := by
  have e : (h ++ l).length = q + nn := by rw [List.length_append, hl, hn]
  refine ga_newa_bool harr hd hz hnb hkc hks (by omega) ((List.append_assoc h l _).trans (by rw [hh])) ?_
  rw [e]
  exact kk
theorem gb_newa_double (nn : Nat) (n : Nat) (l2 : ga_H) (hl : h.length = q) (hq9 : q ≤ 1000) (hn : l.length = nn) {z : Int} (harr : Cond.arrayClass .double ∈ ga_big) (hd : decode (ga_b M) pc = .ok (.newarray .double, 2)) (hz : z = (n : Int)) (hnb : n ≤ 60000) (hkc : kc + 1 ≤ mc) (hks : ks + n ≤ ms) (h9 : nn ≤ 1000) (hh : l ++ [.inr (.inr (.inl (n, fun _ => FP.dconst0)))] = l2) (kk : ga_W t mc ms (kc + 1) (ks + n) M P X (pc + 2) lv (Vr (q + nn) :: st) (h ++ l2)) : ga_W t mc ms kc ks M P X pc lv (Vi z :: st) (h ++ l) := by
  have e : (h ++ l).length = q + nn := by rw [List.length_append, hl, hn]
  refine ga_newa_double harr hd hz hnb hkc hks (by omega) ((List.append_assoc h l _).trans (by rw [hh])) ?_
  rw [e]
  exact kk
end Gb
def cI_X9_init (q : Nat) : ga_H := [.inl (9, [Vi 0, Vr (q + 1), Vr (q + 2), Vi 0, Vr (q + 3), Vr (q + 4), Vr (q + 5), Vr (q + 6)]), .inr (.inl (0, 40, (fillF (fun _ => 0) (40 : Nat) (-1)))), .inr (.inl (1, 40, (fun _ => 0))), .inr (.inl (0, 30, (fun _ => 0))), .inr (.inr (.inl (30, (fun _ => FP.dconst0)))), .inr (.inl (1, 30, (fun _ => 0))), .inr (.inl (0, 120, (fillF (fun _ => 0) (120 : Nat) (-1))))]
theorem T_X9_init (h : ga_H) (q : Nat) (hl : h.length = q) (hq9 : q ≤ 1000) : ga_Mt 1 6 290 mX9_init [Vr q] (h ++ [.inl (9, [Vi 0, Vn, Vn, Vi 0, Vn, Vn, Vn, Vn])]) (fun v h2 => v = none ∧ h2 = h ++ cI_X9_init q) ga_nox := by
  refine ga_meth [some (Vr q)] rfl rfl (by decide +kernel) (Nat.le_of_ble_eq_true rfl) rfl ?_
  refine ga_aload_n dX9_init_0 rfl ?_
  refine ga_objInit lkX9_3 ow2 ow3 dX9_init_1 (by decide) (Nat.le_of_ble_eq_true rfl) ?_
  refine ga_aload_n dX9_init_4 rfl ?_
  refine ga_iconst dX9_init_5 ⟨by decide, by decide⟩ ?_
  refine gb_put 0 [.inl (9, [Vi 0, Vn, Vn, Vi 0, Vn, Vn, Vn, Vn])] hl rfl gfX9_9 dX9_init_6 rfl (Nat.le_of_ble_eq_true rfl) (fun _ => rfl) (fun _ => rfl) rfl ?_
  refine ga_aload_n dX9_init_9 rfl ?_
  refine ga_bipush dX9_init_10 ⟨by decide, by decide⟩ (by decide) ?_
  refine gb_newa_int 1 40 [.inl (9, [Vi 0, Vn, Vn, Vi 0, Vn, Vn, Vn, Vn]), .inr (.inl (0, 40, (fun _ => 0)))] hl (by omega) rfl acI dX9_init_12 rfl (by decide) (by decide) (by decide) (by decide) rfl ?_
  refine gb_putF 0 [.inl (9, [Vi 0, Vr (q + 1), Vn, Vi 0, Vn, Vn, Vn, Vn]), .inr (.inl (0, 40, (fun _ => 0)))] hl rfl gfX9_15 dX9_init_14 rfl rfl (Nat.le_of_ble_eq_true rfl) (fun _ => rfl) (fun _ => rfl) rfl ?_
  refine ga_aload_n dX9_init_17 rfl ?_
  refine ga_bipush dX9_init_18 ⟨by decide, by decide⟩ (by decide) ?_
  refine gb_newa_bool 2 40 [.inl (9, [Vi 0, Vr (q + 1), Vn, Vi 0, Vn, Vn, Vn, Vn]), .inr (.inl (0, 40, (fun _ => 0))), .inr (.inl (1, 40, (fun _ => 0)))] hl (by omega) rfl acZ dX9_init_20 rfl (by decide) (by decide) (by decide) (by decide) rfl ?_
  refine gb_putF 0 [.inl (9, [Vi 0, Vr (q + 1), Vr (q + 2), Vi 0, Vn, Vn, Vn, Vn]), .inr (.inl (0, 40, (fun _ => 0))), .inr (.inl (1, 40, (fun _ => 0)))] hl rfl gfX9_19 dX9_init_22 rfl rfl (Nat.le_of_ble_eq_true rfl) (fun _ => rfl) (fun _ => rfl) rfl ?_
  refine ga_aload_n dX9_init_25 rfl ?_
  refine ga_iconst dX9_init_26 ⟨by decide, by decide⟩ ?_
  refine gb_put 0 [.inl (9, [Vi 0, Vr (q + 1), Vr (q + 2), Vi 0, Vn, Vn, Vn, Vn]), .inr (.inl (0, 40, (fun _ => 0))), .inr (.inl (1, 40, (fun _ => 0)))] hl rfl gfX9_23 dX9_init_27 rfl (Nat.le_of_ble_eq_true rfl) (fun _ => rfl) (fun _ => rfl) rfl ?_
  refine ga_aload_n dX9_init_30 rfl ?_
  refine ga_bipush dX9_init_31 ⟨by decide, by decide⟩ (by decide) ?_
  refine gb_newa_int 3 30 [.inl (9, [Vi 0, Vr (q + 1), Vr (q + 2), Vi 0, Vn, Vn, Vn, Vn]), .inr (.inl (0, 40, (fun _ => 0))), .inr (.inl (1, 40, (fun _ => 0))), .inr (.inl (0, 30, (fun _ => 0)))] hl (by omega) rfl acI dX9_init_33 rfl (by decide) (by decide) (by decide) (by decide) rfl ?_
  refine gb_putF 0 [.inl (9, [Vi 0, Vr (q + 1), Vr (q + 2), Vi 0, Vr (q + 3), Vn, Vn, Vn]), .inr (.inl (0, 40, (fun _ => 0))), .inr (.inl (1, 40, (fun _ => 0))), .inr (.inl (0, 30, (fun _ => 0)))] hl rfl gfX9_26 dX9_init_35 rfl rfl (Nat.le_of_ble_eq_true rfl) (fun _ => rfl) (fun _ => rfl) rfl ?_
  refine ga_aload_n dX9_init_38 rfl ?_
  refine ga_bipush dX9_init_39 ⟨by decide, by decide⟩ (by decide) ?_
  refine gb_newa_double 4 30 [.inl (9, [Vi 0, Vr (q + 1), Vr (q + 2), Vi 0, Vr (q + 3), Vn, Vn, Vn]), .inr (.inl (0, 40, (fun _ => 0))), .inr (.inl (1, 40, (fun _ => 0))), .inr (.inl (0, 30, (fun _ => 0))), .inr (.inr (.inl (30, (fun _ => FP.dconst0))))] hl (by omega) rfl acD dX9_init_41 rfl (by decide) (by decide) (by decide) (by decide) rfl ?_
  refine gb_putF 0 [.inl (9, [Vi 0, Vr (q + 1), Vr (q + 2), Vi 0, Vr (q + 3), Vr (q + 4), Vn, Vn]), .inr (.inl (0, 40, (fun _ => 0))), .inr (.inl (1, 40, (fun _ => 0))), .inr (.inl (0, 30, (fun _ => 0))), .inr (.inr (.inl (30, (fun _ => FP.dconst0))))] hl rfl gfX9_29 dX9_init_43 rfl rfl (Nat.le_of_ble_eq_true rfl) (fun _ => rfl) (fun _ => rfl) rfl ?_
  refine ga_aload_n dX9_init_46 rfl ?_
  refine ga_bipush dX9_init_47 ⟨by decide, by decide⟩ (by decide) ?_
  refine gb_newa_bool 5 30 [.inl (9, [Vi 0, Vr (q + 1), Vr (q + 2), Vi 0, Vr (q + 3), Vr (q + 4), Vn, Vn]), .inr (.inl (0, 40, (fun _ => 0))), .inr (.inl (1, 40, (fun _ => 0))), .inr (.inl (0, 30, (fun _ => 0))), .inr (.inr (.inl (30, (fun _ => FP.dconst0)))), .inr (.inl (1, 30, (fun _ => 0)))] hl (by omega) rfl acZ dX9_init_49 rfl (by decide) (by decide) (by decide) (by decide) rfl ?_
  refine gb_putF 0 [.inl (9, [Vi 0, Vr (q + 1), Vr (q + 2), Vi 0, Vr (q + 3), Vr (q + 4), Vr (q + 5), Vn]), .inr (.inl (0, 40, (fun _ => 0))), .inr (.inl (1, 40, (fun _ => 0))), .inr (.inl (0, 30, (fun _ => 0))), .inr (.inr (.inl (30, (fun _ => FP.dconst0)))), .inr (.inl (1, 30, (fun _ => 0)))] hl rfl gfX9_33 dX9_init_51 rfl rfl (Nat.le_of_ble_eq_true rfl) (fun _ => rfl) (fun _ => rfl) rfl ?_
  refine ga_aload_n dX9_init_54 rfl ?_
  refine ga_bipush dX9_init_55 ⟨by decide, by decide⟩ (by decide) ?_
  refine gb_newa_int 6 120 [.inl (9, [Vi 0, Vr (q + 1), Vr (q + 2), Vi 0, Vr (q + 3), Vr (q + 4), Vr (q + 5), Vn]), .inr (.inl (0, 40, (fun _ => 0))), .inr (.inl (1, 40, (fun _ => 0))), .inr (.inl (0, 30, (fun _ => 0))), .inr (.inr (.inl (30, (fun _ => FP.dconst0)))), .inr (.inl (1, 30, (fun _ => 0))), .inr (.inl (0, 120, (fun _ => 0)))] hl (by omega) rfl acI dX9_init_57 rfl (by decide) (by decide) (by decide) (by decide) rfl ?_
  refine gb_putF 0 [.inl (9, [Vi 0, Vr (q + 1), Vr (q + 2), Vi 0, Vr (q + 3), Vr (q + 4), Vr (q + 5), Vr (q + 6)]), .inr (.inl (0, 40, (fun _ => 0))), .inr (.inl (1, 40, (fun _ => 0))), .inr (.inl (0, 30, (fun _ => 0))), .inr (.inr (.inl (30, (fun _ => FP.dconst0)))), .inr (.inl (1, 30, (fun _ => 0))), .inr (.inl (0, 120, (fun _ => 0)))] hl rfl gfX9_36 dX9_init_59 rfl rfl (Nat.le_of_ble_eq_true rfl) (fun _ => rfl) (fun _ => rfl) rfl ?_
  refine ga_aload_n dX9_init_62 rfl ?_
  refine gb_get 0 hl rfl grX9_15 dX9_init_63 rfl rfl ?_
  refine ga_iconst dX9_init_66 ⟨by decide, by decide⟩ ?_
  refine ga_callS (T_fill (gb_at (k := 1) hl rfl) (by decide)) fJ7_fill_53178 rfl kJ7_fill_53178 lkX9_39 dX9_init_67 rfl rfl (by decide) (Nat.le_of_ble_eq_true rfl) (by decide) (by decide) ?_
  rintro _ _ ⟨rfl, rfl⟩
  refine ga_eqh (h2 := h ++ [.inl (9, [Vi 0, Vr (q + 1), Vr (q + 2), Vi 0, Vr (q + 3), Vr (q + 4), Vr (q + 5), Vr (q + 6)]), .inr (.inl (0, 40, (fillF (fun _ => 0) (40 : Nat) (-1)))), .inr (.inl (1, 40, (fun _ => 0))), .inr (.inl (0, 30, (fun _ => 0))), .inr (.inr (.inl (30, (fun _ => FP.dconst0)))), .inr (.inl (1, 30, (fun _ => 0))), .inr (.inl (0, 120, (fun _ => 0)))]) ((gb_set hl).trans rfl) ?_
  refine ga_aload_n dX9_init_70 rfl ?_
  refine gb_get 0 hl rfl grX9_36 dX9_init_71 rfl rfl ?_
  refine ga_iconst dX9_init_74 ⟨by decide, by decide⟩ ?_
  refine ga_callS (T_fill (gb_at (k := 6) hl rfl) (by decide)) fJ7_fill_53178 rfl kJ7_fill_53178 lkX9_39 dX9_init_75 rfl rfl (by decide) (Nat.le_of_ble_eq_true rfl) (by decide) (by decide) ?_
  rintro _ _ ⟨rfl, rfl⟩
  refine ga_eqh (h2 := h ++ [.inl (9, [Vi 0, Vr (q + 1), Vr (q + 2), Vi 0, Vr (q + 3), Vr (q + 4), Vr (q + 5), Vr (q + 6)]), .inr (.inl (0, 40, (fillF (fun _ => 0) (40 : Nat) (-1)))), .inr (.inl (1, 40, (fun _ => 0))), .inr (.inl (0, 30, (fun _ => 0))), .inr (.inr (.inl (30, (fun _ => FP.dconst0)))), .inr (.inl (1, 30, (fun _ => 0))), .inr (.inl (0, 120, (fillF (fun _ => 0) (120 : Nat) (-1))))]) ((gb_set hl).trans rfl) ?_
  refine ga_ret (v := none) ?_ rfl (by decide) (by decide) ⟨dX9_init_78, rfl⟩
  exact ⟨rfl, rfl⟩
def cI_X4_init (q : Nat) : ga_H := [.inl (4, [Vr (q + 1), Vr (q + 2)]), .inr (.inl (0, 32, (grF 32))), .inr (.inr (.inl (8, (fun _ => FP.dconst0))))]
theorem T_X4_init (h : ga_H) (q : Nat) (hl : h.length = q) (hq9 : q ≤ 1000) : ga_Mt 1 2 40 mX4_init [Vr q] (h ++ [.inl (4, [Vn, Vn])]) (fun v h2 => v = none ∧ h2 = h ++ cI_X4_init q) ga_nox := by
  refine ga_meth [some (Vr q), none] rfl rfl (by decide +kernel) (Nat.le_of_ble_eq_true rfl) rfl ?_
  refine ga_aload_n dX4_init_0 rfl ?_
  refine ga_objInit lkX4_3 ow2 ow3 dX4_init_1 (by decide) (Nat.le_of_ble_eq_true rfl) ?_
  refine ga_aload_n dX4_init_4 rfl ?_
  refine ga_bipush dX4_init_5 ⟨by decide, by decide⟩ (by decide) ?_
  refine gb_newa_int 1 32 [.inl (4, [Vn, Vn]), .inr (.inl (0, 32, (fun _ => 0)))] hl (by omega) rfl acI dX4_init_7 rfl (by decide) (by decide) (by decide) (by decide) rfl ?_
  refine gb_putF 0 [.inl (4, [Vr (q + 1), Vn]), .inr (.inl (0, 32, (fun _ => 0)))] hl rfl gfX4_9 dX4_init_9 rfl rfl (Nat.le_of_ble_eq_true rfl) (fun _ => rfl) (fun _ => rfl) rfl ?_
  refine ga_aload_n dX4_init_12 rfl ?_
  refine ga_bipush dX4_init_13 ⟨by decide, by decide⟩ (by decide) ?_
  refine gb_newa_double 2 8 [.inl (4, [Vr (q + 1), Vn]), .inr (.inl (0, 32, (fun _ => 0))), .inr (.inr (.inl (8, (fun _ => FP.dconst0))))] hl (by omega) rfl acD dX4_init_15 rfl (by decide) (by decide) (by decide) (by decide) rfl ?_
  refine gb_putF 0 [.inl (4, [Vr (q + 1), Vr (q + 2)]), .inr (.inl (0, 32, (fun _ => 0))), .inr (.inr (.inl (8, (fun _ => FP.dconst0))))] hl rfl gfX4_15 dX4_init_17 rfl rfl (Nat.le_of_ble_eq_true rfl) (fun _ => rfl) (fun _ => rfl) rfl ?_
  refine ga_iconst dX4_init_20 ⟨by decide, by decide⟩ ?_
  refine ga_istore_n (lv2 := [_, _]) dX4_init_21 (by decide) rfl rfl ?_
  have key : ∀ n i : Nat, i + n = 32 → ga_W 1 2 40 2 40 mX4_init (fun v h2 => v = none ∧ h2 = h ++ cI_X4_init q) ga_nox 22 [some (Vr q), some (Vi (i : Int))] [] (h ++ [.inl (4, [Vr (q + 1), Vr (q + 2)]), .inr (.inl (0, 32, (grF i))), .inr (.inr (.inl (8, (fun _ => FP.dconst0))))]) := by
    intro n
    induction n with
    | zero =>
      intro i hi
      obtain rfl : i = 32 := by omega
      refine ga_iload_n dX4_init_22 rfl ?_
      refine ga_bipush dX4_init_23 ⟨by decide, by decide⟩ (by decide) ?_
      refine ga_icmp_ge (tgt := 43) dX4_init_25 rfl (fun c_9 => ?_) (fun c_9 => ?_)
      · refine ga_ret (v := none) ?_ rfl (by decide) (by decide) ⟨dX4_init_43, rfl⟩
        exact ⟨rfl, rfl⟩
      · exact absurd c_9 (by decide)
    | succ n ih =>
      intro i hi
      refine ga_iload_n dX4_init_22 rfl ?_
      refine ga_bipush dX4_init_23 ⟨by decide, by decide⟩ (by decide) ?_
      refine ga_icmp_ge (tgt := 43) dX4_init_25 rfl (fun c_9 => ?_) (fun c_9 => ?_)
      · omega
      · refine ga_aload_n dX4_init_28 rfl ?_
        refine gb_get 0 hl rfl grX4_9 dX4_init_29 rfl rfl ?_
        refine ga_iload_n dX4_init_32 rfl ?_
        refine ga_iload_n dX4_init_33 rfl ?_
        refine ga_iconst dX4_init_34 ⟨by decide, by decide⟩ ?_
        refine ga_irem dX4_init_35 (by omega) (by decide) rfl ?_
        refine gb_iast 1 [.inl (4, [Vr (q + 1), Vr (q + 2)]), .inr (.inl (0, 32, (grF (i + 1)))), .inr (.inr (.inl (8, (fun _ => FP.dconst0))))] hl rfl dX4_init_36 rfl (by omega) (by omega) (grF_s i) rfl ?_
        refine ga_iinc (z := ((i + 1 : Nat) : Int)) (lv2 := [_, _]) dX4_init_37 (by decide) rfl rfl (by omega) (⟨by omega, by omega⟩) rfl ?_
        refine ga_goto (tgt := 22) dX4_init_40 rfl ?_
        exact ih (i + 1) (by omega)
  refine ga_eqh (h2 := h ++ [.inl (4, [Vr (q + 1), Vr (q + 2)]), .inr (.inl (0, 32, (grF 0))), .inr (.inr (.inl (8, (fun _ => FP.dconst0))))]) (by rw [grF_0]) ?_
  exact key 32 0 rfl
def cI_X1_init (q : Nat) : ga_H := [.inl (1, [Vr (q + 1), Vr (q + 8), Vr (q + 15)]), .inl (9, [Vi 0, Vr (q + 2), Vr (q + 3), Vi 0, Vr (q + 4), Vr (q + 5), Vr (q + 6), Vr (q + 7)]), .inr (.inl (0, 40, (fillF (fun _ => 0) (40 : Nat) (-1)))), .inr (.inl (1, 40, (fun _ => 0))), .inr (.inl (0, 30, (fun _ => 0))), .inr (.inr (.inl (30, (fun _ => FP.dconst0)))), .inr (.inl (1, 30, (fun _ => 0))), .inr (.inl (0, 120, (fillF (fun _ => 0) (120 : Nat) (-1)))), .inl (9, [Vi 0, Vr (q + 9), Vr (q + 10), Vi 0, Vr (q + 11), Vr (q + 12), Vr (q + 13), Vr (q + 14)]), .inr (.inl (0, 40, (fillF (fun _ => 0) (40 : Nat) (-1)))), .inr (.inl (1, 40, (fun _ => 0))), .inr (.inl (0, 30, (fun _ => 0))), .inr (.inr (.inl (30, (fun _ => FP.dconst0)))), .inr (.inl (1, 30, (fun _ => 0))), .inr (.inl (0, 120, (fillF (fun _ => 0) (120 : Nat) (-1)))), .inl (4, [Vr (q + 16), Vr (q + 17)]), .inr (.inl (0, 32, (grF 32))), .inr (.inr (.inl (8, (fun _ => FP.dconst0))))]
theorem T_X1_init (h : ga_H) (q : Nat) (hl : h.length = q) (hq9 : q ≤ 900) : ga_Mt 2 17 638 mX1_init [Vr q] (h ++ [.inl (1, [Vn, Vn, Vn])]) (fun v h2 => v = none ∧ h2 = h ++ cI_X1_init q) ga_nox := by
  refine ga_meth [some (Vr q)] rfl rfl (by decide +kernel) (Nat.le_of_ble_eq_true rfl) rfl ?_
  refine ga_aload_n dX1_init_0 rfl ?_
  refine ga_objInit lkX1_3 ow2 ow3 dX1_init_1 (by decide) (Nat.le_of_ble_eq_true rfl) ?_
  refine ga_aload_n dX1_init_4 rfl ?_
  refine gb_new 1 [.inl (1, [Vn, Vn, Vn]), .inl (9, [Vi 0, Vn, Vn, Vi 0, Vn, Vn, Vn, Vn])] hl (by omega) rfl nsX1_9 dX1_init_5 (by decide) (by decide) (by decide) rfl ?_
  refine ga_dup dX1_init_8 rfl ?_
  refine ga_eqh (h2 := (h ++ ([.inl (1, [Vn, Vn, Vn])] : ga_H)) ++ ([.inl (9, [Vi 0, Vn, Vn, Vi 0, Vn, Vn, Vn, Vn])] : ga_H)) (List.append_assoc h ([.inl (1, [Vn, Vn, Vn])] : ga_H) ([.inl (9, [Vi 0, Vn, Vn, Vi 0, Vn, Vn, Vn, Vn])] : ga_H)).symm ?_
  refine ga_callI (host := "") (T_X9_init (h ++ ([.inl (1, [Vn, Vn, Vn])] : ga_H)) (q + 1) (by rw [List.length_append, hl]; rfl) (by omega)) fX9_init rfl kX9_init (Or.inl lkX1_11) dX1_init_9 rfl rfl (by decide) (Nat.le_of_ble_eq_true rfl) (by decide) (by decide) ?_
  rintro _ _ ⟨rfl, rfl⟩
  refine ga_eqh (h2 := h ++ ([.inl (1, [Vn, Vn, Vn]), .inl (9, [Vi 0, Vr (q + 2), Vr (q + 3), Vi 0, Vr (q + 4), Vr (q + 5), Vr (q + 6), Vr (q + 7)]), .inr (.inl (0, 40, (fillF (fun _ => 0) (40 : Nat) (-1)))), .inr (.inl (1, 40, (fun _ => 0))), .inr (.inl (0, 30, (fun _ => 0))), .inr (.inr (.inl (30, (fun _ => FP.dconst0)))), .inr (.inl (1, 30, (fun _ => 0))), .inr (.inl (0, 120, (fillF (fun _ => 0) (120 : Nat) (-1))))] : ga_H)) (List.append_assoc h ([.inl (1, [Vn, Vn, Vn])] : ga_H) (cI_X9_init (q + 1))) ?_
  refine gb_putF 0 [.inl (1, [Vr (q + 1), Vn, Vn]), .inl (9, [Vi 0, Vr (q + 2), Vr (q + 3), Vi 0, Vr (q + 4), Vr (q + 5), Vr (q + 6), Vr (q + 7)]), .inr (.inl (0, 40, (fillF (fun _ => 0) (40 : Nat) (-1)))), .inr (.inl (1, 40, (fun _ => 0))), .inr (.inl (0, 30, (fun _ => 0))), .inr (.inr (.inl (30, (fun _ => FP.dconst0)))), .inr (.inl (1, 30, (fun _ => 0))), .inr (.inl (0, 120, (fillF (fun _ => 0) (120 : Nat) (-1))))] hl rfl gfX1_12 dX1_init_12 rfl rfl (Nat.le_of_ble_eq_true rfl) (fun _ => rfl) (fun _ => rfl) rfl ?_
  refine ga_aload_n dX1_init_15 rfl ?_
  refine gb_new 8 [.inl (1, [Vr (q + 1), Vn, Vn]), .inl (9, [Vi 0, Vr (q + 2), Vr (q + 3), Vi 0, Vr (q + 4), Vr (q + 5), Vr (q + 6), Vr (q + 7)]), .inr (.inl (0, 40, (fillF (fun _ => 0) (40 : Nat) (-1)))), .inr (.inl (1, 40, (fun _ => 0))), .inr (.inl (0, 30, (fun _ => 0))), .inr (.inr (.inl (30, (fun _ => FP.dconst0)))), .inr (.inl (1, 30, (fun _ => 0))), .inr (.inl (0, 120, (fillF (fun _ => 0) (120 : Nat) (-1)))), .inl (9, [Vi 0, Vn, Vn, Vi 0, Vn, Vn, Vn, Vn])] hl (by omega) rfl nsX1_9 dX1_init_16 (by decide) (by decide) (by decide) rfl ?_
  refine ga_dup dX1_init_19 rfl ?_
  refine ga_eqh (h2 := (h ++ ([.inl (1, [Vr (q + 1), Vn, Vn]), .inl (9, [Vi 0, Vr (q + 2), Vr (q + 3), Vi 0, Vr (q + 4), Vr (q + 5), Vr (q + 6), Vr (q + 7)]), .inr (.inl (0, 40, (fillF (fun _ => 0) (40 : Nat) (-1)))), .inr (.inl (1, 40, (fun _ => 0))), .inr (.inl (0, 30, (fun _ => 0))), .inr (.inr (.inl (30, (fun _ => FP.dconst0)))), .inr (.inl (1, 30, (fun _ => 0))), .inr (.inl (0, 120, (fillF (fun _ => 0) (120 : Nat) (-1))))] : ga_H)) ++ ([.inl (9, [Vi 0, Vn, Vn, Vi 0, Vn, Vn, Vn, Vn])] : ga_H)) (List.append_assoc h ([.inl (1, [Vr (q + 1), Vn, Vn]), .inl (9, [Vi 0, Vr (q + 2), Vr (q + 3), Vi 0, Vr (q + 4), Vr (q + 5), Vr (q + 6), Vr (q + 7)]), .inr (.inl (0, 40, (fillF (fun _ => 0) (40 : Nat) (-1)))), .inr (.inl (1, 40, (fun _ => 0))), .inr (.inl (0, 30, (fun _ => 0))), .inr (.inr (.inl (30, (fun _ => FP.dconst0)))), .inr (.inl (1, 30, (fun _ => 0))), .inr (.inl (0, 120, (fillF (fun _ => 0) (120 : Nat) (-1))))] : ga_H) ([.inl (9, [Vi 0, Vn, Vn, Vi 0, Vn, Vn, Vn, Vn])] : ga_H)).symm ?_
  refine ga_callI (host := "") (T_X9_init (h ++ ([.inl (1, [Vr (q + 1), Vn, Vn]), .inl (9, [Vi 0, Vr (q + 2), Vr (q + 3), Vi 0, Vr (q + 4), Vr (q + 5), Vr (q + 6), Vr (q + 7)]), .inr (.inl (0, 40, (fillF (fun _ => 0) (40 : Nat) (-1)))), .inr (.inl (1, 40, (fun _ => 0))), .inr (.inl (0, 30, (fun _ => 0))), .inr (.inr (.inl (30, (fun _ => FP.dconst0)))), .inr (.inl (1, 30, (fun _ => 0))), .inr (.inl (0, 120, (fillF (fun _ => 0) (120 : Nat) (-1))))] : ga_H)) (q + 8) (by rw [List.length_append, hl]; rfl) (by omega)) fX9_init rfl kX9_init (Or.inl lkX1_11) dX1_init_20 rfl rfl (by decide) (Nat.le_of_ble_eq_true rfl) (by decide) (by decide) ?_
  rintro _ _ ⟨rfl, rfl⟩
  refine ga_eqh (h2 := h ++ ([.inl (1, [Vr (q + 1), Vn, Vn]), .inl (9, [Vi 0, Vr (q + 2), Vr (q + 3), Vi 0, Vr (q + 4), Vr (q + 5), Vr (q + 6), Vr (q + 7)]), .inr (.inl (0, 40, (fillF (fun _ => 0) (40 : Nat) (-1)))), .inr (.inl (1, 40, (fun _ => 0))), .inr (.inl (0, 30, (fun _ => 0))), .inr (.inr (.inl (30, (fun _ => FP.dconst0)))), .inr (.inl (1, 30, (fun _ => 0))), .inr (.inl (0, 120, (fillF (fun _ => 0) (120 : Nat) (-1)))), .inl (9, [Vi 0, Vr (q + 9), Vr (q + 10), Vi 0, Vr (q + 11), Vr (q + 12), Vr (q + 13), Vr (q + 14)]), .inr (.inl (0, 40, (fillF (fun _ => 0) (40 : Nat) (-1)))), .inr (.inl (1, 40, (fun _ => 0))), .inr (.inl (0, 30, (fun _ => 0))), .inr (.inr (.inl (30, (fun _ => FP.dconst0)))), .inr (.inl (1, 30, (fun _ => 0))), .inr (.inl (0, 120, (fillF (fun _ => 0) (120 : Nat) (-1))))] : ga_H)) (List.append_assoc h ([.inl (1, [Vr (q + 1), Vn, Vn]), .inl (9, [Vi 0, Vr (q + 2), Vr (q + 3), Vi 0, Vr (q + 4), Vr (q + 5), Vr (q + 6), Vr (q + 7)]), .inr (.inl (0, 40, (fillF (fun _ => 0) (40 : Nat) (-1)))), .inr (.inl (1, 40, (fun _ => 0))), .inr (.inl (0, 30, (fun _ => 0))), .inr (.inr (.inl (30, (fun _ => FP.dconst0)))), .inr (.inl (1, 30, (fun _ => 0))), .inr (.inl (0, 120, (fillF (fun _ => 0) (120 : Nat) (-1))))] : ga_H) (cI_X9_init (q + 8))) ?_
  refine gb_putF 0 [.inl (1, [Vr (q + 1), Vr (q + 8), Vn]), .inl (9, [Vi 0, Vr (q + 2), Vr (q + 3), Vi 0, Vr (q + 4), Vr (q + 5), Vr (q + 6), Vr (q + 7)]), .inr (.inl (0, 40, (fillF (fun _ => 0) (40 : Nat) (-1)))), .inr (.inl (1, 40, (fun _ => 0))), .inr (.inl (0, 30, (fun _ => 0))), .inr (.inr (.inl (30, (fun _ => FP.dconst0)))), .inr (.inl (1, 30, (fun _ => 0))), .inr (.inl (0, 120, (fillF (fun _ => 0) (120 : Nat) (-1)))), .inl (9, [Vi 0, Vr (q + 9), Vr (q + 10), Vi 0, Vr (q + 11), Vr (q + 12), Vr (q + 13), Vr (q + 14)]), .inr (.inl (0, 40, (fillF (fun _ => 0) (40 : Nat) (-1)))), .inr (.inl (1, 40, (fun _ => 0))), .inr (.inl (0, 30, (fun _ => 0))), .inr (.inr (.inl (30, (fun _ => FP.dconst0)))), .inr (.inl (1, 30, (fun _ => 0))), .inr (.inl (0, 120, (fillF (fun _ => 0) (120 : Nat) (-1))))] hl rfl gfX1_18 dX1_init_23 rfl rfl (Nat.le_of_ble_eq_true rfl) (fun _ => rfl) (fun _ => rfl) rfl ?_
  refine ga_aload_n dX1_init_26 rfl ?_
  refine gb_new 15 [.inl (1, [Vr (q + 1), Vr (q + 8), Vn]), .inl (9, [Vi 0, Vr (q + 2), Vr (q + 3), Vi 0, Vr (q + 4), Vr (q + 5), Vr (q + 6), Vr (q + 7)]), .inr (.inl (0, 40, (fillF (fun _ => 0) (40 : Nat) (-1)))), .inr (.inl (1, 40, (fun _ => 0))), .inr (.inl (0, 30, (fun _ => 0))), .inr (.inr (.inl (30, (fun _ => FP.dconst0)))), .inr (.inl (1, 30, (fun _ => 0))), .inr (.inl (0, 120, (fillF (fun _ => 0) (120 : Nat) (-1)))), .inl (9, [Vi 0, Vr (q + 9), Vr (q + 10), Vi 0, Vr (q + 11), Vr (q + 12), Vr (q + 13), Vr (q + 14)]), .inr (.inl (0, 40, (fillF (fun _ => 0) (40 : Nat) (-1)))), .inr (.inl (1, 40, (fun _ => 0))), .inr (.inl (0, 30, (fun _ => 0))), .inr (.inr (.inl (30, (fun _ => FP.dconst0)))), .inr (.inl (1, 30, (fun _ => 0))), .inr (.inl (0, 120, (fillF (fun _ => 0) (120 : Nat) (-1)))), .inl (4, [Vn, Vn])] hl (by omega) rfl nsX1_21 dX1_init_27 (by decide) (by decide) (by decide) rfl ?_
  refine ga_dup dX1_init_30 rfl ?_
  refine ga_eqh (h2 := (h ++ ([.inl (1, [Vr (q + 1), Vr (q + 8), Vn]), .inl (9, [Vi 0, Vr (q + 2), Vr (q + 3), Vi 0, Vr (q + 4), Vr (q + 5), Vr (q + 6), Vr (q + 7)]), .inr (.inl (0, 40, (fillF (fun _ => 0) (40 : Nat) (-1)))), .inr (.inl (1, 40, (fun _ => 0))), .inr (.inl (0, 30, (fun _ => 0))), .inr (.inr (.inl (30, (fun _ => FP.dconst0)))), .inr (.inl (1, 30, (fun _ => 0))), .inr (.inl (0, 120, (fillF (fun _ => 0) (120 : Nat) (-1)))), .inl (9, [Vi 0, Vr (q + 9), Vr (q + 10), Vi 0, Vr (q + 11), Vr (q + 12), Vr (q + 13), Vr (q + 14)]), .inr (.inl (0, 40, (fillF (fun _ => 0) (40 : Nat) (-1)))), .inr (.inl (1, 40, (fun _ => 0))), .inr (.inl (0, 30, (fun _ => 0))), .inr (.inr (.inl (30, (fun _ => FP.dconst0)))), .inr (.inl (1, 30, (fun _ => 0))), .inr (.inl (0, 120, (fillF (fun _ => 0) (120 : Nat) (-1))))] : ga_H)) ++ ([.inl (4, [Vn, Vn])] : ga_H)) (List.append_assoc h ([.inl (1, [Vr (q + 1), Vr (q + 8), Vn]), .inl (9, [Vi 0, Vr (q + 2), Vr (q + 3), Vi 0, Vr (q + 4), Vr (q + 5), Vr (q + 6), Vr (q + 7)]), .inr (.inl (0, 40, (fillF (fun _ => 0) (40 : Nat) (-1)))), .inr (.inl (1, 40, (fun _ => 0))), .inr (.inl (0, 30, (fun _ => 0))), .inr (.inr (.inl (30, (fun _ => FP.dconst0)))), .inr (.inl (1, 30, (fun _ => 0))), .inr (.inl (0, 120, (fillF (fun _ => 0) (120 : Nat) (-1)))), .inl (9, [Vi 0, Vr (q + 9), Vr (q + 10), Vi 0, Vr (q + 11), Vr (q + 12), Vr (q + 13), Vr (q + 14)]), .inr (.inl (0, 40, (fillF (fun _ => 0) (40 : Nat) (-1)))), .inr (.inl (1, 40, (fun _ => 0))), .inr (.inl (0, 30, (fun _ => 0))), .inr (.inr (.inl (30, (fun _ => FP.dconst0)))), .inr (.inl (1, 30, (fun _ => 0))), .inr (.inl (0, 120, (fillF (fun _ => 0) (120 : Nat) (-1))))] : ga_H) ([.inl (4, [Vn, Vn])] : ga_H)).symm ?_
  refine ga_callI (host := "") (T_X4_init (h ++ ([.inl (1, [Vr (q + 1), Vr (q + 8), Vn]), .inl (9, [Vi 0, Vr (q + 2), Vr (q + 3), Vi 0, Vr (q + 4), Vr (q + 5), Vr (q + 6), Vr (q + 7)]), .inr (.inl (0, 40, (fillF (fun _ => 0) (40 : Nat) (-1)))), .inr (.inl (1, 40, (fun _ => 0))), .inr (.inl (0, 30, (fun _ => 0))), .inr (.inr (.inl (30, (fun _ => FP.dconst0)))), .inr (.inl (1, 30, (fun _ => 0))), .inr (.inl (0, 120, (fillF (fun _ => 0) (120 : Nat) (-1)))), .inl (9, [Vi 0, Vr (q + 9), Vr (q + 10), Vi 0, Vr (q + 11), Vr (q + 12), Vr (q + 13), Vr (q + 14)]), .inr (.inl (0, 40, (fillF (fun _ => 0) (40 : Nat) (-1)))), .inr (.inl (1, 40, (fun _ => 0))), .inr (.inl (0, 30, (fun _ => 0))), .inr (.inr (.inl (30, (fun _ => FP.dconst0)))), .inr (.inl (1, 30, (fun _ => 0))), .inr (.inl (0, 120, (fillF (fun _ => 0) (120 : Nat) (-1))))] : ga_H)) (q + 15) (by rw [List.length_append, hl]; rfl) (by omega)) fX4_init rfl kX4_init (Or.inl lkX1_23) dX1_init_31 rfl rfl (by decide) (Nat.le_of_ble_eq_true rfl) (by decide) (by decide) ?_
  rintro _ _ ⟨rfl, rfl⟩
  refine ga_eqh (h2 := h ++ ([.inl (1, [Vr (q + 1), Vr (q + 8), Vn]), .inl (9, [Vi 0, Vr (q + 2), Vr (q + 3), Vi 0, Vr (q + 4), Vr (q + 5), Vr (q + 6), Vr (q + 7)]), .inr (.inl (0, 40, (fillF (fun _ => 0) (40 : Nat) (-1)))), .inr (.inl (1, 40, (fun _ => 0))), .inr (.inl (0, 30, (fun _ => 0))), .inr (.inr (.inl (30, (fun _ => FP.dconst0)))), .inr (.inl (1, 30, (fun _ => 0))), .inr (.inl (0, 120, (fillF (fun _ => 0) (120 : Nat) (-1)))), .inl (9, [Vi 0, Vr (q + 9), Vr (q + 10), Vi 0, Vr (q + 11), Vr (q + 12), Vr (q + 13), Vr (q + 14)]), .inr (.inl (0, 40, (fillF (fun _ => 0) (40 : Nat) (-1)))), .inr (.inl (1, 40, (fun _ => 0))), .inr (.inl (0, 30, (fun _ => 0))), .inr (.inr (.inl (30, (fun _ => FP.dconst0)))), .inr (.inl (1, 30, (fun _ => 0))), .inr (.inl (0, 120, (fillF (fun _ => 0) (120 : Nat) (-1)))), .inl (4, [Vr (q + 16), Vr (q + 17)]), .inr (.inl (0, 32, (grF 32))), .inr (.inr (.inl (8, (fun _ => FP.dconst0))))] : ga_H)) (List.append_assoc h ([.inl (1, [Vr (q + 1), Vr (q + 8), Vn]), .inl (9, [Vi 0, Vr (q + 2), Vr (q + 3), Vi 0, Vr (q + 4), Vr (q + 5), Vr (q + 6), Vr (q + 7)]), .inr (.inl (0, 40, (fillF (fun _ => 0) (40 : Nat) (-1)))), .inr (.inl (1, 40, (fun _ => 0))), .inr (.inl (0, 30, (fun _ => 0))), .inr (.inr (.inl (30, (fun _ => FP.dconst0)))), .inr (.inl (1, 30, (fun _ => 0))), .inr (.inl (0, 120, (fillF (fun _ => 0) (120 : Nat) (-1)))), .inl (9, [Vi 0, Vr (q + 9), Vr (q + 10), Vi 0, Vr (q + 11), Vr (q + 12), Vr (q + 13), Vr (q + 14)]), .inr (.inl (0, 40, (fillF (fun _ => 0) (40 : Nat) (-1)))), .inr (.inl (1, 40, (fun _ => 0))), .inr (.inl (0, 30, (fun _ => 0))), .inr (.inr (.inl (30, (fun _ => FP.dconst0)))), .inr (.inl (1, 30, (fun _ => 0))), .inr (.inl (0, 120, (fillF (fun _ => 0) (120 : Nat) (-1))))] : ga_H) (cI_X4_init (q + 15))) ?_
  refine gb_putF 0 [.inl (1, [Vr (q + 1), Vr (q + 8), Vr (q + 15)]), .inl (9, [Vi 0, Vr (q + 2), Vr (q + 3), Vi 0, Vr (q + 4), Vr (q + 5), Vr (q + 6), Vr (q + 7)]), .inr (.inl (0, 40, (fillF (fun _ => 0) (40 : Nat) (-1)))), .inr (.inl (1, 40, (fun _ => 0))), .inr (.inl (0, 30, (fun _ => 0))), .inr (.inr (.inl (30, (fun _ => FP.dconst0)))), .inr (.inl (1, 30, (fun _ => 0))), .inr (.inl (0, 120, (fillF (fun _ => 0) (120 : Nat) (-1)))), .inl (9, [Vi 0, Vr (q + 9), Vr (q + 10), Vi 0, Vr (q + 11), Vr (q + 12), Vr (q + 13), Vr (q + 14)]), .inr (.inl (0, 40, (fillF (fun _ => 0) (40 : Nat) (-1)))), .inr (.inl (1, 40, (fun _ => 0))), .inr (.inl (0, 30, (fun _ => 0))), .inr (.inr (.inl (30, (fun _ => FP.dconst0)))), .inr (.inl (1, 30, (fun _ => 0))), .inr (.inl (0, 120, (fillF (fun _ => 0) (120 : Nat) (-1)))), .inl (4, [Vr (q + 16), Vr (q + 17)]), .inr (.inl (0, 32, (grF 32))), .inr (.inr (.inl (8, (fun _ => FP.dconst0))))] hl rfl gfX1_24 dX1_init_34 rfl rfl (Nat.le_of_ble_eq_true rfl) (fun _ => rfl) (fun _ => rfl) rfl ?_
  refine ga_ret (v := none) ?_ rfl (by decide) (by decide) ⟨dX1_init_37, rfl⟩
  exact ⟨rfl, rfl⟩
def cI_X3_init (q : Nat) : ga_H := [.inl (3, [Vr (q + 1)]), .inr (.inl (0, 40, (fun _ => 0)))]
theorem T_X3_init (h : ga_H) (q : Nat) (hl : h.length = q) (hq9 : q ≤ 1000) : ga_Mt 1 1 40 mX3_init [Vr q] (h ++ [.inl (3, [Vn])]) (fun v h2 => v = none ∧ h2 = h ++ cI_X3_init q) ga_nox := by
  refine ga_meth [some (Vr q)] rfl rfl (by decide +kernel) (Nat.le_of_ble_eq_true rfl) rfl ?_
  refine ga_aload_n dX3_init_0 rfl ?_
  refine ga_objInit lkX3_3 ow2 ow3 dX3_init_1 (by decide) (Nat.le_of_ble_eq_true rfl) ?_
  refine ga_aload_n dX3_init_4 rfl ?_
  refine ga_bipush dX3_init_5 ⟨by decide, by decide⟩ (by decide) ?_
  refine gb_newa_int 1 40 [.inl (3, [Vn]), .inr (.inl (0, 40, (fun _ => 0)))] hl (by omega) rfl acI dX3_init_7 rfl (by decide) (by decide) (by decide) (by decide) rfl ?_
  refine gb_putF 0 [.inl (3, [Vr (q + 1)]), .inr (.inl (0, 40, (fun _ => 0)))] hl rfl gfX3_9 dX3_init_9 rfl rfl (Nat.le_of_ble_eq_true rfl) (fun _ => rfl) (fun _ => rfl) rfl ?_
  refine ga_ret (v := none) ?_ rfl (by decide) (by decide) ⟨dX3_init_12, rfl⟩
  exact ⟨rfl, rfl⟩
def cI_X7_init_60_4 (q : Nat) : ga_H := [.inl (7, [Vi 60, Vi 4, Vi 0, Vr (q + 1), Vr (q + 2), Vr (q + 3), Vr (q + 4), Vr (q + 5), Vr (q + 6)]), .inr (.inl (0, 60, (fun _ => 0))), .inr (.inl (0, 240, (fun _ => 0))), .inr (.inl (0, 60, (fun _ => 0))), .inr (.inl (0, 60, (fun _ => 0))), .inr (.inl (0, 60, (fun _ => 0))), .inr (.inl (0, 60, (fun _ => 0)))]
theorem T_X7_init_60_4 (h : ga_H) (q : Nat) (hl : h.length = q) (hq9 : q ≤ 1000) : ga_Mt 1 6 540 mX7_init [Vr q, Vi 60, Vi 4] (h ++ [.inl (7, [Vi 0, Vi 0, Vi 0, Vn, Vn, Vn, Vn, Vn, Vn])]) (fun v h2 => v = none ∧ h2 = h ++ cI_X7_init_60_4 q) ga_nox := by
  refine ga_meth [some (Vr q), some (Vi 60), some (Vi 4)] rfl rfl (by decide +kernel) (Nat.le_of_ble_eq_true rfl) rfl ?_
  refine ga_aload_n dX7_init_0 rfl ?_
  refine ga_objInit lkX7_3 ow2 ow3 dX7_init_1 (by decide) (Nat.le_of_ble_eq_true rfl) ?_
  refine ga_aload_n dX7_init_4 rfl ?_
  refine ga_iconst dX7_init_5 ⟨by decide, by decide⟩ ?_
  refine gb_put 0 [.inl (7, [Vi 0, Vi 0, Vi 0, Vn, Vn, Vn, Vn, Vn, Vn])] hl rfl gfX7_9 dX7_init_6 rfl (Nat.le_of_ble_eq_true rfl) (fun _ => rfl) (fun _ => rfl) rfl ?_
  refine ga_aload_n dX7_init_9 rfl ?_
  refine ga_iload_n dX7_init_10 rfl ?_
  refine gb_putF 0 [.inl (7, [Vi 60, Vi 0, Vi 0, Vn, Vn, Vn, Vn, Vn, Vn])] hl rfl gfX7_15 dX7_init_11 rfl rfl (Nat.le_of_ble_eq_true rfl) (fun _ => rfl) (fun _ => rfl) rfl ?_
  refine ga_aload_n dX7_init_14 rfl ?_
  refine ga_iload_n dX7_init_15 rfl ?_
  refine gb_putF 0 [.inl (7, [Vi 60, Vi 4, Vi 0, Vn, Vn, Vn, Vn, Vn, Vn])] hl rfl gfX7_18 dX7_init_16 rfl rfl (Nat.le_of_ble_eq_true rfl) (fun _ => rfl) (fun _ => rfl) rfl ?_
  refine ga_aload_n dX7_init_19 rfl ?_
  refine ga_iload_n dX7_init_20 rfl ?_
  refine gb_newa_int 1 60 [.inl (7, [Vi 60, Vi 4, Vi 0, Vn, Vn, Vn, Vn, Vn, Vn]), .inr (.inl (0, 60, (fun _ => 0)))] hl (by omega) rfl acI dX7_init_21 rfl (by decide) (by decide) (by decide) (by decide) rfl ?_
  refine gb_putF 0 [.inl (7, [Vi 60, Vi 4, Vi 0, Vr (q + 1), Vn, Vn, Vn, Vn, Vn]), .inr (.inl (0, 60, (fun _ => 0)))] hl rfl gfX7_21 dX7_init_23 rfl rfl (Nat.le_of_ble_eq_true rfl) (fun _ => rfl) (fun _ => rfl) rfl ?_
  refine ga_aload_n dX7_init_26 rfl ?_
  refine ga_iload_n dX7_init_27 rfl ?_
  refine ga_iload_n dX7_init_28 rfl ?_
  refine ga_imul (z := 240) dX7_init_29 rfl ⟨by decide, by decide⟩ ?_
  refine gb_newa_int 2 240 [.inl (7, [Vi 60, Vi 4, Vi 0, Vr (q + 1), Vn, Vn, Vn, Vn, Vn]), .inr (.inl (0, 60, (fun _ => 0))), .inr (.inl (0, 240, (fun _ => 0)))] hl (by omega) rfl acI dX7_init_30 rfl (by decide) (by decide) (by decide) (by decide) rfl ?_
  refine gb_putF 0 [.inl (7, [Vi 60, Vi 4, Vi 0, Vr (q + 1), Vr (q + 2), Vn, Vn, Vn, Vn]), .inr (.inl (0, 60, (fun _ => 0))), .inr (.inl (0, 240, (fun _ => 0)))] hl rfl gfX7_25 dX7_init_32 rfl rfl (Nat.le_of_ble_eq_true rfl) (fun _ => rfl) (fun _ => rfl) rfl ?_
  refine ga_aload_n dX7_init_35 rfl ?_
  refine ga_iload_n dX7_init_36 rfl ?_
  refine gb_newa_int 3 60 [.inl (7, [Vi 60, Vi 4, Vi 0, Vr (q + 1), Vr (q + 2), Vn, Vn, Vn, Vn]), .inr (.inl (0, 60, (fun _ => 0))), .inr (.inl (0, 240, (fun _ => 0))), .inr (.inl (0, 60, (fun _ => 0)))] hl (by omega) rfl acI dX7_init_37 rfl (by decide) (by decide) (by decide) (by decide) rfl ?_
  refine gb_putF 0 [.inl (7, [Vi 60, Vi 4, Vi 0, Vr (q + 1), Vr (q + 2), Vr (q + 3), Vn, Vn, Vn]), .inr (.inl (0, 60, (fun _ => 0))), .inr (.inl (0, 240, (fun _ => 0))), .inr (.inl (0, 60, (fun _ => 0)))] hl rfl gfX7_28 dX7_init_39 rfl rfl (Nat.le_of_ble_eq_true rfl) (fun _ => rfl) (fun _ => rfl) rfl ?_
  refine ga_aload_n dX7_init_42 rfl ?_
  refine ga_iload_n dX7_init_43 rfl ?_
  refine gb_newa_int 4 60 [.inl (7, [Vi 60, Vi 4, Vi 0, Vr (q + 1), Vr (q + 2), Vr (q + 3), Vn, Vn, Vn]), .inr (.inl (0, 60, (fun _ => 0))), .inr (.inl (0, 240, (fun _ => 0))), .inr (.inl (0, 60, (fun _ => 0))), .inr (.inl (0, 60, (fun _ => 0)))] hl (by omega) rfl acI dX7_init_44 rfl (by decide) (by decide) (by decide) (by decide) rfl ?_
  refine gb_putF 0 [.inl (7, [Vi 60, Vi 4, Vi 0, Vr (q + 1), Vr (q + 2), Vr (q + 3), Vr (q + 4), Vn, Vn]), .inr (.inl (0, 60, (fun _ => 0))), .inr (.inl (0, 240, (fun _ => 0))), .inr (.inl (0, 60, (fun _ => 0))), .inr (.inl (0, 60, (fun _ => 0)))] hl rfl gfX7_31 dX7_init_46 rfl rfl (Nat.le_of_ble_eq_true rfl) (fun _ => rfl) (fun _ => rfl) rfl ?_
  refine ga_aload_n dX7_init_49 rfl ?_
  refine ga_iload_n dX7_init_50 rfl ?_
  refine gb_newa_int 5 60 [.inl (7, [Vi 60, Vi 4, Vi 0, Vr (q + 1), Vr (q + 2), Vr (q + 3), Vr (q + 4), Vn, Vn]), .inr (.inl (0, 60, (fun _ => 0))), .inr (.inl (0, 240, (fun _ => 0))), .inr (.inl (0, 60, (fun _ => 0))), .inr (.inl (0, 60, (fun _ => 0))), .inr (.inl (0, 60, (fun _ => 0)))] hl (by omega) rfl acI dX7_init_51 rfl (by decide) (by decide) (by decide) (by decide) rfl ?_
  refine gb_putF 0 [.inl (7, [Vi 60, Vi 4, Vi 0, Vr (q + 1), Vr (q + 2), Vr (q + 3), Vr (q + 4), Vr (q + 5), Vn]), .inr (.inl (0, 60, (fun _ => 0))), .inr (.inl (0, 240, (fun _ => 0))), .inr (.inl (0, 60, (fun _ => 0))), .inr (.inl (0, 60, (fun _ => 0))), .inr (.inl (0, 60, (fun _ => 0)))] hl rfl gfX7_34 dX7_init_53 rfl rfl (Nat.le_of_ble_eq_true rfl) (fun _ => rfl) (fun _ => rfl) rfl ?_
  refine ga_aload_n dX7_init_56 rfl ?_
  refine ga_iload_n dX7_init_57 rfl ?_
  refine gb_newa_int 6 60 [.inl (7, [Vi 60, Vi 4, Vi 0, Vr (q + 1), Vr (q + 2), Vr (q + 3), Vr (q + 4), Vr (q + 5), Vn]), .inr (.inl (0, 60, (fun _ => 0))), .inr (.inl (0, 240, (fun _ => 0))), .inr (.inl (0, 60, (fun _ => 0))), .inr (.inl (0, 60, (fun _ => 0))), .inr (.inl (0, 60, (fun _ => 0))), .inr (.inl (0, 60, (fun _ => 0)))] hl (by omega) rfl acI dX7_init_58 rfl (by decide) (by decide) (by decide) (by decide) rfl ?_
  refine gb_putF 0 [.inl (7, [Vi 60, Vi 4, Vi 0, Vr (q + 1), Vr (q + 2), Vr (q + 3), Vr (q + 4), Vr (q + 5), Vr (q + 6)]), .inr (.inl (0, 60, (fun _ => 0))), .inr (.inl (0, 240, (fun _ => 0))), .inr (.inl (0, 60, (fun _ => 0))), .inr (.inl (0, 60, (fun _ => 0))), .inr (.inl (0, 60, (fun _ => 0))), .inr (.inl (0, 60, (fun _ => 0)))] hl rfl gfX7_37 dX7_init_60 rfl rfl (Nat.le_of_ble_eq_true rfl) (fun _ => rfl) (fun _ => rfl) rfl ?_
  refine ga_ret (v := none) ?_ rfl (by decide) (by decide) ⟨dX7_init_63, rfl⟩
  exact ⟨rfl, rfl⟩
def cI_X7_init_80_120 (q : Nat) : ga_H := [.inl (7, [Vi 80, Vi 120, Vi 0, Vr (q + 1), Vr (q + 2), Vr (q + 3), Vr (q + 4), Vr (q + 5), Vr (q + 6)]), .inr (.inl (0, 80, (fun _ => 0))), .inr (.inl (0, 9600, (fun _ => 0))), .inr (.inl (0, 80, (fun _ => 0))), .inr (.inl (0, 80, (fun _ => 0))), .inr (.inl (0, 80, (fun _ => 0))), .inr (.inl (0, 80, (fun _ => 0)))]
theorem T_X7_init_80_120 (h : ga_H) (q : Nat) (hl : h.length = q) (hq9 : q ≤ 1000) : ga_Mt 1 6 10000 mX7_init [Vr q, Vi 80, Vi 120] (h ++ [.inl (7, [Vi 0, Vi 0, Vi 0, Vn, Vn, Vn, Vn, Vn, Vn])]) (fun v h2 => v = none ∧ h2 = h ++ cI_X7_init_80_120 q) ga_nox := by
  refine ga_meth [some (Vr q), some (Vi 80), some (Vi 120)] rfl rfl (by decide +kernel) (Nat.le_of_ble_eq_true rfl) rfl ?_
  refine ga_aload_n dX7_init_0 rfl ?_
  refine ga_objInit lkX7_3 ow2 ow3 dX7_init_1 (by decide) (Nat.le_of_ble_eq_true rfl) ?_
  refine ga_aload_n dX7_init_4 rfl ?_
  refine ga_iconst dX7_init_5 ⟨by decide, by decide⟩ ?_
  refine gb_put 0 [.inl (7, [Vi 0, Vi 0, Vi 0, Vn, Vn, Vn, Vn, Vn, Vn])] hl rfl gfX7_9 dX7_init_6 rfl (Nat.le_of_ble_eq_true rfl) (fun _ => rfl) (fun _ => rfl) rfl ?_
  refine ga_aload_n dX7_init_9 rfl ?_
  refine ga_iload_n dX7_init_10 rfl ?_
  refine gb_putF 0 [.inl (7, [Vi 80, Vi 0, Vi 0, Vn, Vn, Vn, Vn, Vn, Vn])] hl rfl gfX7_15 dX7_init_11 rfl rfl (Nat.le_of_ble_eq_true rfl) (fun _ => rfl) (fun _ => rfl) rfl ?_
  refine ga_aload_n dX7_init_14 rfl ?_
  refine ga_iload_n dX7_init_15 rfl ?_
  refine gb_putF 0 [.inl (7, [Vi 80, Vi 120, Vi 0, Vn, Vn, Vn, Vn, Vn, Vn])] hl rfl gfX7_18 dX7_init_16 rfl rfl (Nat.le_of_ble_eq_true rfl) (fun _ => rfl) (fun _ => rfl) rfl ?_
  refine ga_aload_n dX7_init_19 rfl ?_
  refine ga_iload_n dX7_init_20 rfl ?_
  refine gb_newa_int 1 80 [.inl (7, [Vi 80, Vi 120, Vi 0, Vn, Vn, Vn, Vn, Vn, Vn]), .inr (.inl (0, 80, (fun _ => 0)))] hl (by omega) rfl acI dX7_init_21 rfl (by decide) (by decide) (by decide) (by decide) rfl ?_
  refine gb_putF 0 [.inl (7, [Vi 80, Vi 120, Vi 0, Vr (q + 1), Vn, Vn, Vn, Vn, Vn]), .inr (.inl (0, 80, (fun _ => 0)))] hl rfl gfX7_21 dX7_init_23 rfl rfl (Nat.le_of_ble_eq_true rfl) (fun _ => rfl) (fun _ => rfl) rfl ?_
  refine ga_aload_n dX7_init_26 rfl ?_
  refine ga_iload_n dX7_init_27 rfl ?_
  refine ga_iload_n dX7_init_28 rfl ?_
  refine ga_imul (z := 9600) dX7_init_29 rfl ⟨by decide, by decide⟩ ?_
  refine gb_newa_int 2 9600 [.inl (7, [Vi 80, Vi 120, Vi 0, Vr (q + 1), Vn, Vn, Vn, Vn, Vn]), .inr (.inl (0, 80, (fun _ => 0))), .inr (.inl (0, 9600, (fun _ => 0)))] hl (by omega) rfl acI dX7_init_30 rfl (by decide) (by decide) (by decide) (by decide) rfl ?_
  refine gb_putF 0 [.inl (7, [Vi 80, Vi 120, Vi 0, Vr (q + 1), Vr (q + 2), Vn, Vn, Vn, Vn]), .inr (.inl (0, 80, (fun _ => 0))), .inr (.inl (0, 9600, (fun _ => 0)))] hl rfl gfX7_25 dX7_init_32 rfl rfl (Nat.le_of_ble_eq_true rfl) (fun _ => rfl) (fun _ => rfl) rfl ?_
  refine ga_aload_n dX7_init_35 rfl ?_
  refine ga_iload_n dX7_init_36 rfl ?_
  refine gb_newa_int 3 80 [.inl (7, [Vi 80, Vi 120, Vi 0, Vr (q + 1), Vr (q + 2), Vn, Vn, Vn, Vn]), .inr (.inl (0, 80, (fun _ => 0))), .inr (.inl (0, 9600, (fun _ => 0))), .inr (.inl (0, 80, (fun _ => 0)))] hl (by omega) rfl acI dX7_init_37 rfl (by decide) (by decide) (by decide) (by decide) rfl ?_
  refine gb_putF 0 [.inl (7, [Vi 80, Vi 120, Vi 0, Vr (q + 1), Vr (q + 2), Vr (q + 3), Vn, Vn, Vn]), .inr (.inl (0, 80, (fun _ => 0))), .inr (.inl (0, 9600, (fun _ => 0))), .inr (.inl (0, 80, (fun _ => 0)))] hl rfl gfX7_28 dX7_init_39 rfl rfl (Nat.le_of_ble_eq_true rfl) (fun _ => rfl) (fun _ => rfl) rfl ?_
  refine ga_aload_n dX7_init_42 rfl ?_
  refine ga_iload_n dX7_init_43 rfl ?_
  refine gb_newa_int 4 80 [.inl (7, [Vi 80, Vi 120, Vi 0, Vr (q + 1), Vr (q + 2), Vr (q + 3), Vn, Vn, Vn]), .inr (.inl (0, 80, (fun _ => 0))), .inr (.inl (0, 9600, (fun _ => 0))), .inr (.inl (0, 80, (fun _ => 0))), .inr (.inl (0, 80, (fun _ => 0)))] hl (by omega) rfl acI dX7_init_44 rfl (by decide) (by decide) (by decide) (by decide) rfl ?_
  refine gb_putF 0 [.inl (7, [Vi 80, Vi 120, Vi 0, Vr (q + 1), Vr (q + 2), Vr (q + 3), Vr (q + 4), Vn, Vn]), .inr (.inl (0, 80, (fun _ => 0))), .inr (.inl (0, 9600, (fun _ => 0))), .inr (.inl (0, 80, (fun _ => 0))), .inr (.inl (0, 80, (fun _ => 0)))] hl rfl gfX7_31 dX7_init_46 rfl rfl (Nat.le_of_ble_eq_true rfl) (fun _ => rfl) (fun _ => rfl) rfl ?_
  refine ga_aload_n dX7_init_49 rfl ?_
  refine ga_iload_n dX7_init_50 rfl ?_
  refine gb_newa_int 5 80 [.inl (7, [Vi 80, Vi 120, Vi 0, Vr (q + 1), Vr (q + 2), Vr (q + 3), Vr (q + 4), Vn, Vn]), .inr (.inl (0, 80, (fun _ => 0))), .inr (.inl (0, 9600, (fun _ => 0))), .inr (.inl (0, 80, (fun _ => 0))), .inr (.inl (0, 80, (fun _ => 0))), .inr (.inl (0, 80, (fun _ => 0)))] hl (by omega) rfl acI dX7_init_51 rfl (by decide) (by decide) (by decide) (by decide) rfl ?_
  refine gb_putF 0 [.inl (7, [Vi 80, Vi 120, Vi 0, Vr (q + 1), Vr (q + 2), Vr (q + 3), Vr (q + 4), Vr (q + 5), Vn]), .inr (.inl (0, 80, (fun _ => 0))), .inr (.inl (0, 9600, (fun _ => 0))), .inr (.inl (0, 80, (fun _ => 0))), .inr (.inl (0, 80, (fun _ => 0))), .inr (.inl (0, 80, (fun _ => 0)))] hl rfl gfX7_34 dX7_init_53 rfl rfl (Nat.le_of_ble_eq_true rfl) (fun _ => rfl) (fun _ => rfl) rfl ?_
  refine ga_aload_n dX7_init_56 rfl ?_
  refine ga_iload_n dX7_init_57 rfl ?_
  refine gb_newa_int 6 80 [.inl (7, [Vi 80, Vi 120, Vi 0, Vr (q + 1), Vr (q + 2), Vr (q + 3), Vr (q + 4), Vr (q + 5), Vn]), .inr (.inl (0, 80, (fun _ => 0))), .inr (.inl (0, 9600, (fun _ => 0))), .inr (.inl (0, 80, (fun _ => 0))), .inr (.inl (0, 80, (fun _ => 0))), .inr (.inl (0, 80, (fun _ => 0))), .inr (.inl (0, 80, (fun _ => 0)))] hl (by omega) rfl acI dX7_init_58 rfl (by decide) (by decide) (by decide) (by decide) rfl ?_
  refine gb_putF 0 [.inl (7, [Vi 80, Vi 120, Vi 0, Vr (q + 1), Vr (q + 2), Vr (q + 3), Vr (q + 4), Vr (q + 5), Vr (q + 6)]), .inr (.inl (0, 80, (fun _ => 0))), .inr (.inl (0, 9600, (fun _ => 0))), .inr (.inl (0, 80, (fun _ => 0))), .inr (.inl (0, 80, (fun _ => 0))), .inr (.inl (0, 80, (fun _ => 0))), .inr (.inl (0, 80, (fun _ => 0)))] hl rfl gfX7_37 dX7_init_60 rfl rfl (Nat.le_of_ble_eq_true rfl) (fun _ => rfl) (fun _ => rfl) rfl ?_
  refine ga_ret (v := none) ?_ rfl (by decide) (by decide) ⟨dX7_init_63, rfl⟩
  exact ⟨rfl, rfl⟩
def cI_X0_init (q : Nat) : ga_H := [.inl (0, [Vr (q + 1), Vr (q + 8), Vi 0, Vr (q + 15), Vr (q + 16)]), .inl (7, [Vi 60, Vi 4, Vi 0, Vr (q + 2), Vr (q + 3), Vr (q + 4), Vr (q + 5), Vr (q + 6), Vr (q + 7)]), .inr (.inl (0, 60, (fun _ => 0))), .inr (.inl (0, 240, (fun _ => 0))), .inr (.inl (0, 60, (fun _ => 0))), .inr (.inl (0, 60, (fun _ => 0))), .inr (.inl (0, 60, (fun _ => 0))), .inr (.inl (0, 60, (fun _ => 0))), .inl (7, [Vi 80, Vi 120, Vi 0, Vr (q + 9), Vr (q + 10), Vr (q + 11), Vr (q + 12), Vr (q + 13), Vr (q + 14)]), .inr (.inl (0, 80, (fun _ => 0))), .inr (.inl (0, 9600, (fun _ => 0))), .inr (.inl (0, 80, (fun _ => 0))), .inr (.inl (0, 80, (fun _ => 0))), .inr (.inl (0, 80, (fun _ => 0))), .inr (.inl (0, 80, (fun _ => 0))), .inr (.inl (0, 60, (fun _ => 0))), .inr (.inl (0, 60, (fun _ => 0)))]
theorem T_X0_init (h : ga_H) (q : Nat) (hl : h.length = q) (hq9 : q ≤ 900) : ga_Mt 2 16 10678 mX0_init [Vr q] (h ++ [.inl (0, [Vn, Vn, Vi 0, Vn, Vn])]) (fun v h2 => v = none ∧ h2 = h ++ cI_X0_init q) ga_nox := by
  refine ga_meth [some (Vr q)] rfl rfl (by decide +kernel) (Nat.le_of_ble_eq_true rfl) rfl ?_
  refine ga_aload_n dX0_init_0 rfl ?_
  refine ga_objInit lkX0_3 ow2 ow3 dX0_init_1 (by decide) (Nat.le_of_ble_eq_true rfl) ?_
  refine ga_aload_n dX0_init_4 rfl ?_
  refine gb_new 1 [.inl (0, [Vn, Vn, Vi 0, Vn, Vn]), .inl (7, [Vi 0, Vi 0, Vi 0, Vn, Vn, Vn, Vn, Vn, Vn])] hl (by omega) rfl nsX0_9 dX0_init_5 (by decide) (by decide) (by decide) rfl ?_
  refine ga_dup dX0_init_8 rfl ?_
  refine ga_bipush dX0_init_9 ⟨by decide, by decide⟩ (by decide) ?_
  refine ga_iconst dX0_init_11 ⟨by decide, by decide⟩ ?_
  refine ga_eqh (h2 := (h ++ ([.inl (0, [Vn, Vn, Vi 0, Vn, Vn])] : ga_H)) ++ ([.inl (7, [Vi 0, Vi 0, Vi 0, Vn, Vn, Vn, Vn, Vn, Vn])] : ga_H)) (List.append_assoc h ([.inl (0, [Vn, Vn, Vi 0, Vn, Vn])] : ga_H) ([.inl (7, [Vi 0, Vi 0, Vi 0, Vn, Vn, Vn, Vn, Vn, Vn])] : ga_H)).symm ?_
  refine ga_callI (host := "") (T_X7_init_60_4 (h ++ ([.inl (0, [Vn, Vn, Vi 0, Vn, Vn])] : ga_H)) (q + 1) (by rw [List.length_append, hl]; rfl) (by omega)) fX7_init rfl kX7_init (Or.inl lkX0_11) dX0_init_12 rfl rfl (by decide) (Nat.le_of_ble_eq_true rfl) (by decide) (by decide) ?_
  rintro _ _ ⟨rfl, rfl⟩
  refine ga_eqh (h2 := h ++ ([.inl (0, [Vn, Vn, Vi 0, Vn, Vn]), .inl (7, [Vi 60, Vi 4, Vi 0, Vr (q + 2), Vr (q + 3), Vr (q + 4), Vr (q + 5), Vr (q + 6), Vr (q + 7)]), .inr (.inl (0, 60, (fun _ => 0))), .inr (.inl (0, 240, (fun _ => 0))), .inr (.inl (0, 60, (fun _ => 0))), .inr (.inl (0, 60, (fun _ => 0))), .inr (.inl (0, 60, (fun _ => 0))), .inr (.inl (0, 60, (fun _ => 0)))] : ga_H)) (List.append_assoc h ([.inl (0, [Vn, Vn, Vi 0, Vn, Vn])] : ga_H) (cI_X7_init_60_4 (q + 1))) ?_
  refine gb_putF 0 [.inl (0, [Vr (q + 1), Vn, Vi 0, Vn, Vn]), .inl (7, [Vi 60, Vi 4, Vi 0, Vr (q + 2), Vr (q + 3), Vr (q + 4), Vr (q + 5), Vr (q + 6), Vr (q + 7)]), .inr (.inl (0, 60, (fun _ => 0))), .inr (.inl (0, 240, (fun _ => 0))), .inr (.inl (0, 60, (fun _ => 0))), .inr (.inl (0, 60, (fun _ => 0))), .inr (.inl (0, 60, (fun _ => 0))), .inr (.inl (0, 60, (fun _ => 0)))] hl rfl gfX0_14 dX0_init_15 rfl rfl (Nat.le_of_ble_eq_true rfl) (fun _ => rfl) (fun _ => rfl) rfl ?_
  refine ga_aload_n dX0_init_18 rfl ?_
  refine gb_new 8 [.inl (0, [Vr (q + 1), Vn, Vi 0, Vn, Vn]), .inl (7, [Vi 60, Vi 4, Vi 0, Vr (q + 2), Vr (q + 3), Vr (q + 4), Vr (q + 5), Vr (q + 6), Vr (q + 7)]), .inr (.inl (0, 60, (fun _ => 0))), .inr (.inl (0, 240, (fun _ => 0))), .inr (.inl (0, 60, (fun _ => 0))), .inr (.inl (0, 60, (fun _ => 0))), .inr (.inl (0, 60, (fun _ => 0))), .inr (.inl (0, 60, (fun _ => 0))), .inl (7, [Vi 0, Vi 0, Vi 0, Vn, Vn, Vn, Vn, Vn, Vn])] hl (by omega) rfl nsX0_9 dX0_init_19 (by decide) (by decide) (by decide) rfl ?_
  refine ga_dup dX0_init_22 rfl ?_
  refine ga_bipush dX0_init_23 ⟨by decide, by decide⟩ (by decide) ?_
  refine ga_bipush dX0_init_25 ⟨by decide, by decide⟩ (by decide) ?_
  refine ga_eqh (h2 := (h ++ ([.inl (0, [Vr (q + 1), Vn, Vi 0, Vn, Vn]), .inl (7, [Vi 60, Vi 4, Vi 0, Vr (q + 2), Vr (q + 3), Vr (q + 4), Vr (q + 5), Vr (q + 6), Vr (q + 7)]), .inr (.inl (0, 60, (fun _ => 0))), .inr (.inl (0, 240, (fun _ => 0))), .inr (.inl (0, 60, (fun _ => 0))), .inr (.inl (0, 60, (fun _ => 0))), .inr (.inl (0, 60, (fun _ => 0))), .inr (.inl (0, 60, (fun _ => 0)))] : ga_H)) ++ ([.inl (7, [Vi 0, Vi 0, Vi 0, Vn, Vn, Vn, Vn, Vn, Vn])] : ga_H)) (List.append_assoc h ([.inl (0, [Vr (q + 1), Vn, Vi 0, Vn, Vn]), .inl (7, [Vi 60, Vi 4, Vi 0, Vr (q + 2), Vr (q + 3), Vr (q + 4), Vr (q + 5), Vr (q + 6), Vr (q + 7)]), .inr (.inl (0, 60, (fun _ => 0))), .inr (.inl (0, 240, (fun _ => 0))), .inr (.inl (0, 60, (fun _ => 0))), .inr (.inl (0, 60, (fun _ => 0))), .inr (.inl (0, 60, (fun _ => 0))), .inr (.inl (0, 60, (fun _ => 0)))] : ga_H) ([.inl (7, [Vi 0, Vi 0, Vi 0, Vn, Vn, Vn, Vn, Vn, Vn])] : ga_H)).symm ?_
  refine ga_callI (host := "") (T_X7_init_80_120 (h ++ ([.inl (0, [Vr (q + 1), Vn, Vi 0, Vn, Vn]), .inl (7, [Vi 60, Vi 4, Vi 0, Vr (q + 2), Vr (q + 3), Vr (q + 4), Vr (q + 5), Vr (q + 6), Vr (q + 7)]), .inr (.inl (0, 60, (fun _ => 0))), .inr (.inl (0, 240, (fun _ => 0))), .inr (.inl (0, 60, (fun _ => 0))), .inr (.inl (0, 60, (fun _ => 0))), .inr (.inl (0, 60, (fun _ => 0))), .inr (.inl (0, 60, (fun _ => 0)))] : ga_H)) (q + 8) (by rw [List.length_append, hl]; rfl) (by omega)) fX7_init rfl kX7_init (Or.inl lkX0_11) dX0_init_27 rfl rfl (by decide) (Nat.le_of_ble_eq_true rfl) (by decide) (by decide) ?_
  rintro _ _ ⟨rfl, rfl⟩
  refine ga_eqh (h2 := h ++ ([.inl (0, [Vr (q + 1), Vn, Vi 0, Vn, Vn]), .inl (7, [Vi 60, Vi 4, Vi 0, Vr (q + 2), Vr (q + 3), Vr (q + 4), Vr (q + 5), Vr (q + 6), Vr (q + 7)]), .inr (.inl (0, 60, (fun _ => 0))), .inr (.inl (0, 240, (fun _ => 0))), .inr (.inl (0, 60, (fun _ => 0))), .inr (.inl (0, 60, (fun _ => 0))), .inr (.inl (0, 60, (fun _ => 0))), .inr (.inl (0, 60, (fun _ => 0))), .inl (7, [Vi 80, Vi 120, Vi 0, Vr (q + 9), Vr (q + 10), Vr (q + 11), Vr (q + 12), Vr (q + 13), Vr (q + 14)]), .inr (.inl (0, 80, (fun _ => 0))), .inr (.inl (0, 9600, (fun _ => 0))), .inr (.inl (0, 80, (fun _ => 0))), .inr (.inl (0, 80, (fun _ => 0))), .inr (.inl (0, 80, (fun _ => 0))), .inr (.inl (0, 80, (fun _ => 0)))] : ga_H)) (List.append_assoc h ([.inl (0, [Vr (q + 1), Vn, Vi 0, Vn, Vn]), .inl (7, [Vi 60, Vi 4, Vi 0, Vr (q + 2), Vr (q + 3), Vr (q + 4), Vr (q + 5), Vr (q + 6), Vr (q + 7)]), .inr (.inl (0, 60, (fun _ => 0))), .inr (.inl (0, 240, (fun _ => 0))), .inr (.inl (0, 60, (fun _ => 0))), .inr (.inl (0, 60, (fun _ => 0))), .inr (.inl (0, 60, (fun _ => 0))), .inr (.inl (0, 60, (fun _ => 0)))] : ga_H) (cI_X7_init_80_120 (q + 8))) ?_
  refine gb_putF 0 [.inl (0, [Vr (q + 1), Vr (q + 8), Vi 0, Vn, Vn]), .inl (7, [Vi 60, Vi 4, Vi 0, Vr (q + 2), Vr (q + 3), Vr (q + 4), Vr (q + 5), Vr (q + 6), Vr (q + 7)]), .inr (.inl (0, 60, (fun _ => 0))), .inr (.inl (0, 240, (fun _ => 0))), .inr (.inl (0, 60, (fun _ => 0))), .inr (.inl (0, 60, (fun _ => 0))), .inr (.inl (0, 60, (fun _ => 0))), .inr (.inl (0, 60, (fun _ => 0))), .inl (7, [Vi 80, Vi 120, Vi 0, Vr (q + 9), Vr (q + 10), Vr (q + 11), Vr (q + 12), Vr (q + 13), Vr (q + 14)]), .inr (.inl (0, 80, (fun _ => 0))), .inr (.inl (0, 9600, (fun _ => 0))), .inr (.inl (0, 80, (fun _ => 0))), .inr (.inl (0, 80, (fun _ => 0))), .inr (.inl (0, 80, (fun _ => 0))), .inr (.inl (0, 80, (fun _ => 0)))] hl rfl gfX0_20 dX0_init_30 rfl rfl (Nat.le_of_ble_eq_true rfl) (fun _ => rfl) (fun _ => rfl) rfl ?_
  refine ga_aload_n dX0_init_33 rfl ?_
  refine ga_iconst dX0_init_34 ⟨by decide, by decide⟩ ?_
  refine gb_put 0 [.inl (0, [Vr (q + 1), Vr (q + 8), Vi 0, Vn, Vn]), .inl (7, [Vi 60, Vi 4, Vi 0, Vr (q + 2), Vr (q + 3), Vr (q + 4), Vr (q + 5), Vr (q + 6), Vr (q + 7)]), .inr (.inl (0, 60, (fun _ => 0))), .inr (.inl (0, 240, (fun _ => 0))), .inr (.inl (0, 60, (fun _ => 0))), .inr (.inl (0, 60, (fun _ => 0))), .inr (.inl (0, 60, (fun _ => 0))), .inr (.inl (0, 60, (fun _ => 0))), .inl (7, [Vi 80, Vi 120, Vi 0, Vr (q + 9), Vr (q + 10), Vr (q + 11), Vr (q + 12), Vr (q + 13), Vr (q + 14)]), .inr (.inl (0, 80, (fun _ => 0))), .inr (.inl (0, 9600, (fun _ => 0))), .inr (.inl (0, 80, (fun _ => 0))), .inr (.inl (0, 80, (fun _ => 0))), .inr (.inl (0, 80, (fun _ => 0))), .inr (.inl (0, 80, (fun _ => 0)))] hl rfl gfX0_23 dX0_init_35 rfl (Nat.le_of_ble_eq_true rfl) (fun _ => rfl) (fun _ => rfl) rfl ?_
  refine ga_aload_n dX0_init_38 rfl ?_
  refine ga_bipush dX0_init_39 ⟨by decide, by decide⟩ (by decide) ?_
  refine gb_newa_int 15 60 [.inl (0, [Vr (q + 1), Vr (q + 8), Vi 0, Vn, Vn]), .inl (7, [Vi 60, Vi 4, Vi 0, Vr (q + 2), Vr (q + 3), Vr (q + 4), Vr (q + 5), Vr (q + 6), Vr (q + 7)]), .inr (.inl (0, 60, (fun _ => 0))), .inr (.inl (0, 240, (fun _ => 0))), .inr (.inl (0, 60, (fun _ => 0))), .inr (.inl (0, 60, (fun _ => 0))), .inr (.inl (0, 60, (fun _ => 0))), .inr (.inl (0, 60, (fun _ => 0))), .inl (7, [Vi 80, Vi 120, Vi 0, Vr (q + 9), Vr (q + 10), Vr (q + 11), Vr (q + 12), Vr (q + 13), Vr (q + 14)]), .inr (.inl (0, 80, (fun _ => 0))), .inr (.inl (0, 9600, (fun _ => 0))), .inr (.inl (0, 80, (fun _ => 0))), .inr (.inl (0, 80, (fun _ => 0))), .inr (.inl (0, 80, (fun _ => 0))), .inr (.inl (0, 80, (fun _ => 0))), .inr (.inl (0, 60, (fun _ => 0)))] hl (by omega) rfl acI dX0_init_41 rfl (by decide) (by decide) (by decide) (by decide) rfl ?_
  refine gb_putF 0 [.inl (0, [Vr (q + 1), Vr (q + 8), Vi 0, Vr (q + 15), Vn]), .inl (7, [Vi 60, Vi 4, Vi 0, Vr (q + 2), Vr (q + 3), Vr (q + 4), Vr (q + 5), Vr (q + 6), Vr (q + 7)]), .inr (.inl (0, 60, (fun _ => 0))), .inr (.inl (0, 240, (fun _ => 0))), .inr (.inl (0, 60, (fun _ => 0))), .inr (.inl (0, 60, (fun _ => 0))), .inr (.inl (0, 60, (fun _ => 0))), .inr (.inl (0, 60, (fun _ => 0))), .inl (7, [Vi 80, Vi 120, Vi 0, Vr (q + 9), Vr (q + 10), Vr (q + 11), Vr (q + 12), Vr (q + 13), Vr (q + 14)]), .inr (.inl (0, 80, (fun _ => 0))), .inr (.inl (0, 9600, (fun _ => 0))), .inr (.inl (0, 80, (fun _ => 0))), .inr (.inl (0, 80, (fun _ => 0))), .inr (.inl (0, 80, (fun _ => 0))), .inr (.inl (0, 80, (fun _ => 0))), .inr (.inl (0, 60, (fun _ => 0)))] hl rfl gfX0_27 dX0_init_43 rfl rfl (Nat.le_of_ble_eq_true rfl) (fun _ => rfl) (fun _ => rfl) rfl ?_
  refine ga_aload_n dX0_init_46 rfl ?_
  refine ga_bipush dX0_init_47 ⟨by decide, by decide⟩ (by decide) ?_
  refine gb_newa_int 16 60 [.inl (0, [Vr (q + 1), Vr (q + 8), Vi 0, Vr (q + 15), Vn]), .inl (7, [Vi 60, Vi 4, Vi 0, Vr (q + 2), Vr (q + 3), Vr (q + 4), Vr (q + 5), Vr (q + 6), Vr (q + 7)]), .inr (.inl (0, 60, (fun _ => 0))), .inr (.inl (0, 240, (fun _ => 0))), .inr (.inl (0, 60, (fun _ => 0))), .inr (.inl (0, 60, (fun _ => 0))), .inr (.inl (0, 60, (fun _ => 0))), .inr (.inl (0, 60, (fun _ => 0))), .inl (7, [Vi 80, Vi 120, Vi 0, Vr (q + 9), Vr (q + 10), Vr (q + 11), Vr (q + 12), Vr (q + 13), Vr (q + 14)]), .inr (.inl (0, 80, (fun _ => 0))), .inr (.inl (0, 9600, (fun _ => 0))), .inr (.inl (0, 80, (fun _ => 0))), .inr (.inl (0, 80, (fun _ => 0))), .inr (.inl (0, 80, (fun _ => 0))), .inr (.inl (0, 80, (fun _ => 0))), .inr (.inl (0, 60, (fun _ => 0))), .inr (.inl (0, 60, (fun _ => 0)))] hl (by omega) rfl acI dX0_init_49 rfl (by decide) (by decide) (by decide) (by decide) rfl ?_
  refine gb_putF 0 [.inl (0, [Vr (q + 1), Vr (q + 8), Vi 0, Vr (q + 15), Vr (q + 16)]), .inl (7, [Vi 60, Vi 4, Vi 0, Vr (q + 2), Vr (q + 3), Vr (q + 4), Vr (q + 5), Vr (q + 6), Vr (q + 7)]), .inr (.inl (0, 60, (fun _ => 0))), .inr (.inl (0, 240, (fun _ => 0))), .inr (.inl (0, 60, (fun _ => 0))), .inr (.inl (0, 60, (fun _ => 0))), .inr (.inl (0, 60, (fun _ => 0))), .inr (.inl (0, 60, (fun _ => 0))), .inl (7, [Vi 80, Vi 120, Vi 0, Vr (q + 9), Vr (q + 10), Vr (q + 11), Vr (q + 12), Vr (q + 13), Vr (q + 14)]), .inr (.inl (0, 80, (fun _ => 0))), .inr (.inl (0, 9600, (fun _ => 0))), .inr (.inl (0, 80, (fun _ => 0))), .inr (.inl (0, 80, (fun _ => 0))), .inr (.inl (0, 80, (fun _ => 0))), .inr (.inl (0, 80, (fun _ => 0))), .inr (.inl (0, 60, (fun _ => 0))), .inr (.inl (0, 60, (fun _ => 0)))] hl rfl gfX0_31 dX0_init_51 rfl rfl (Nat.le_of_ble_eq_true rfl) (fun _ => rfl) (fun _ => rfl) rfl ?_
  refine ga_ret (v := none) ?_ rfl (by decide) (by decide) ⟨dX0_init_54, rfl⟩
  exact ⟨rfl, rfl⟩
def cI_X6_init (q : Nat) : ga_H := [.inl (6, [Vr (q + 1), Vi 0, Vr (q + 2), Vr (q + 3)]), .inr (.inl (0, 40, (fun _ => 0))), .inr (.inl (0, 4, (fun _ => 0))), .inr (.inl (0, 4, (fun _ => 0)))]
theorem T_X6_init (h : ga_H) (q : Nat) (hl : h.length = q) (hq9 : q ≤ 1000) : ga_Mt 1 3 48 mX6_init [Vr q] (h ++ [.inl (6, [Vn, Vi 0, Vn, Vn])]) (fun v h2 => v = none ∧ h2 = h ++ cI_X6_init q) ga_nox := by
  refine ga_meth [some (Vr q)] rfl rfl (by decide +kernel) (Nat.le_of_ble_eq_true rfl) rfl ?_
  refine ga_aload_n dX6_init_0 rfl ?_
  refine ga_objInit lkX6_3 ow2 ow3 dX6_init_1 (by decide) (Nat.le_of_ble_eq_true rfl) ?_
  refine ga_aload_n dX6_init_4 rfl ?_
  refine ga_bipush dX6_init_5 ⟨by decide, by decide⟩ (by decide) ?_
  refine gb_newa_int 1 40 [.inl (6, [Vn, Vi 0, Vn, Vn]), .inr (.inl (0, 40, (fun _ => 0)))] hl (by omega) rfl acI dX6_init_7 rfl (by decide) (by decide) (by decide) (by decide) rfl ?_
  refine gb_putF 0 [.inl (6, [Vr (q + 1), Vi 0, Vn, Vn]), .inr (.inl (0, 40, (fun _ => 0)))] hl rfl gfX6_9 dX6_init_9 rfl rfl (Nat.le_of_ble_eq_true rfl) (fun _ => rfl) (fun _ => rfl) rfl ?_
  refine ga_aload_n dX6_init_12 rfl ?_
  refine ga_iconst dX6_init_13 ⟨by decide, by decide⟩ ?_
  refine gb_put 0 [.inl (6, [Vr (q + 1), Vi 0, Vn, Vn]), .inr (.inl (0, 40, (fun _ => 0)))] hl rfl gfX6_15 dX6_init_14 rfl (Nat.le_of_ble_eq_true rfl) (fun _ => rfl) (fun _ => rfl) rfl ?_
  refine ga_aload_n dX6_init_17 rfl ?_
  refine ga_iconst dX6_init_18 ⟨by decide, by decide⟩ ?_
  refine gb_newa_int 2 4 [.inl (6, [Vr (q + 1), Vi 0, Vn, Vn]), .inr (.inl (0, 40, (fun _ => 0))), .inr (.inl (0, 4, (fun _ => 0)))] hl (by omega) rfl acI dX6_init_19 rfl (by decide) (by decide) (by decide) (by decide) rfl ?_
  refine gb_putF 0 [.inl (6, [Vr (q + 1), Vi 0, Vr (q + 2), Vn]), .inr (.inl (0, 40, (fun _ => 0))), .inr (.inl (0, 4, (fun _ => 0)))] hl rfl gfX6_19 dX6_init_21 rfl rfl (Nat.le_of_ble_eq_true rfl) (fun _ => rfl) (fun _ => rfl) rfl ?_
  refine ga_aload_n dX6_init_24 rfl ?_
  refine ga_iconst dX6_init_25 ⟨by decide, by decide⟩ ?_
  refine gb_newa_int 3 4 [.inl (6, [Vr (q + 1), Vi 0, Vr (q + 2), Vn]), .inr (.inl (0, 40, (fun _ => 0))), .inr (.inl (0, 4, (fun _ => 0))), .inr (.inl (0, 4, (fun _ => 0)))] hl (by omega) rfl acI dX6_init_26 rfl (by decide) (by decide) (by decide) (by decide) rfl ?_
  refine gb_putF 0 [.inl (6, [Vr (q + 1), Vi 0, Vr (q + 2), Vr (q + 3)]), .inr (.inl (0, 40, (fun _ => 0))), .inr (.inl (0, 4, (fun _ => 0))), .inr (.inl (0, 4, (fun _ => 0)))] hl rfl gfX6_22 dX6_init_28 rfl rfl (Nat.le_of_ble_eq_true rfl) (fun _ => rfl) (fun _ => rfl) rfl ?_
  refine ga_ret (v := none) ?_ rfl (by decide) (by decide) ⟨dX6_init_31, rfl⟩
  exact ⟨rfl, rfl⟩
def cI_X8_init (q : Nat) : ga_H := [.inl (8, [Vi 0, Vr (q + 1), Vr (q + 2), Vr (q + 3), Vr (q + 4), Vr (q + 8), Vr (q + 12), Vr (q + 13), Vr (q + 14), Vr (q + 15), Vr (q + 16)]), .inr (.inl (0, 30, (fun _ => 0))), .inr (.inl (0, 30, (fun _ => 0))), .inr (.inl (1, 30, (fun _ => 0))), .inl (6, [Vr (q + 5), Vi 0, Vr (q + 6), Vr (q + 7)]), .inr (.inl (0, 40, (fun _ => 0))), .inr (.inl (0, 4, (fun _ => 0))), .inr (.inl (0, 4, (fun _ => 0))), .inl (6, [Vr (q + 9), Vi 0, Vr (q + 10), Vr (q + 11)]), .inr (.inl (0, 40, (fun _ => 0))), .inr (.inl (0, 4, (fun _ => 0))), .inr (.inl (0, 4, (fun _ => 0))), .inr (.inl (0, 4, (fun _ => 0))), .inr (.inl (0, 30, (fun _ => 0))), .inr (.inl (0, 120, (fun _ => 0))), .inr (.inl (0, 120, (fun _ => 0))), .inr (.inl (0, 120, (fun _ => 0)))]
theorem T_X8_init (h : ga_H) (q : Nat) (hl : h.length = q) (hq9 : q ≤ 900) : ga_Mt 2 16 588 mX8_init [Vr q] (h ++ [.inl (8, [Vi 0, Vn, Vn, Vn, Vn, Vn, Vn, Vn, Vn, Vn, Vn])]) (fun v h2 => v = none ∧ h2 = h ++ cI_X8_init q) ga_nox := by
  refine ga_meth [some (Vr q)] rfl rfl (by decide +kernel) (Nat.le_of_ble_eq_true rfl) rfl ?_
  refine ga_aload_n dX8_init_0 rfl ?_
  refine ga_objInit lkX8_3 ow2 ow3 dX8_init_1 (by decide) (Nat.le_of_ble_eq_true rfl) ?_
  refine ga_aload_n dX8_init_4 rfl ?_
  refine ga_iconst dX8_init_5 ⟨by decide, by decide⟩ ?_
  refine gb_put 0 [.inl (8, [Vi 0, Vn, Vn, Vn, Vn, Vn, Vn, Vn, Vn, Vn, Vn])] hl rfl gfX8_9 dX8_init_6 rfl (Nat.le_of_ble_eq_true rfl) (fun _ => rfl) (fun _ => rfl) rfl ?_
  refine ga_aload_n dX8_init_9 rfl ?_
  refine ga_bipush dX8_init_10 ⟨by decide, by decide⟩ (by decide) ?_
  refine gb_newa_int 1 30 [.inl (8, [Vi 0, Vn, Vn, Vn, Vn, Vn, Vn, Vn, Vn, Vn, Vn]), .inr (.inl (0, 30, (fun _ => 0)))] hl (by omega) rfl acI dX8_init_12 rfl (by decide) (by decide) (by decide) (by decide) rfl ?_
  refine gb_putF 0 [.inl (8, [Vi 0, Vr (q + 1), Vn, Vn, Vn, Vn, Vn, Vn, Vn, Vn, Vn]), .inr (.inl (0, 30, (fun _ => 0)))] hl rfl gfX8_15 dX8_init_14 rfl rfl (Nat.le_of_ble_eq_true rfl) (fun _ => rfl) (fun _ => rfl) rfl ?_
  refine ga_aload_n dX8_init_17 rfl ?_
  refine ga_bipush dX8_init_18 ⟨by decide, by decide⟩ (by decide) ?_
  refine gb_newa_int 2 30 [.inl (8, [Vi 0, Vr (q + 1), Vn, Vn, Vn, Vn, Vn, Vn, Vn, Vn, Vn]), .inr (.inl (0, 30, (fun _ => 0))), .inr (.inl (0, 30, (fun _ => 0)))] hl (by omega) rfl acI dX8_init_20 rfl (by decide) (by decide) (by decide) (by decide) rfl ?_
  refine gb_putF 0 [.inl (8, [Vi 0, Vr (q + 1), Vr (q + 2), Vn, Vn, Vn, Vn, Vn, Vn, Vn, Vn]), .inr (.inl (0, 30, (fun _ => 0))), .inr (.inl (0, 30, (fun _ => 0)))] hl rfl gfX8_19 dX8_init_22 rfl rfl (Nat.le_of_ble_eq_true rfl) (fun _ => rfl) (fun _ => rfl) rfl ?_
  refine ga_aload_n dX8_init_25 rfl ?_
  refine ga_bipush dX8_init_26 ⟨by decide, by decide⟩ (by decide) ?_
  refine gb_newa_bool 3 30 [.inl (8, [Vi 0, Vr (q + 1), Vr (q + 2), Vn, Vn, Vn, Vn, Vn, Vn, Vn, Vn]), .inr (.inl (0, 30, (fun _ => 0))), .inr (.inl (0, 30, (fun _ => 0))), .inr (.inl (1, 30, (fun _ => 0)))] hl (by omega) rfl acZ dX8_init_28 rfl (by decide) (by decide) (by decide) (by decide) rfl ?_
  refine gb_putF 0 [.inl (8, [Vi 0, Vr (q + 1), Vr (q + 2), Vr (q + 3), Vn, Vn, Vn, Vn, Vn, Vn, Vn]), .inr (.inl (0, 30, (fun _ => 0))), .inr (.inl (0, 30, (fun _ => 0))), .inr (.inl (1, 30, (fun _ => 0)))] hl rfl gfX8_22 dX8_init_30 rfl rfl (Nat.le_of_ble_eq_true rfl) (fun _ => rfl) (fun _ => rfl) rfl ?_
  refine ga_aload_n dX8_init_33 rfl ?_
  refine gb_new 4 [.inl (8, [Vi 0, Vr (q + 1), Vr (q + 2), Vr (q + 3), Vn, Vn, Vn, Vn, Vn, Vn, Vn]), .inr (.inl (0, 30, (fun _ => 0))), .inr (.inl (0, 30, (fun _ => 0))), .inr (.inl (1, 30, (fun _ => 0))), .inl (6, [Vn, Vi 0, Vn, Vn])] hl (by omega) rfl nsX8_26 dX8_init_34 (by decide) (by decide) (by decide) rfl ?_
  refine ga_dup dX8_init_37 rfl ?_
  refine ga_eqh (h2 := (h ++ ([.inl (8, [Vi 0, Vr (q + 1), Vr (q + 2), Vr (q + 3), Vn, Vn, Vn, Vn, Vn, Vn, Vn]), .inr (.inl (0, 30, (fun _ => 0))), .inr (.inl (0, 30, (fun _ => 0))), .inr (.inl (1, 30, (fun _ => 0)))] : ga_H)) ++ ([.inl (6, [Vn, Vi 0, Vn, Vn])] : ga_H)) (List.append_assoc h ([.inl (8, [Vi 0, Vr (q + 1), Vr (q + 2), Vr (q + 3), Vn, Vn, Vn, Vn, Vn, Vn, Vn]), .inr (.inl (0, 30, (fun _ => 0))), .inr (.inl (0, 30, (fun _ => 0))), .inr (.inl (1, 30, (fun _ => 0)))] : ga_H) ([.inl (6, [Vn, Vi 0, Vn, Vn])] : ga_H)).symm ?_
  refine ga_callI (T_X6_init (h ++ ([.inl (8, [Vi 0, Vr (q + 1), Vr (q + 2), Vr (q + 3), Vn, Vn, Vn, Vn, Vn, Vn, Vn]), .inr (.inl (0, 30, (fun _ => 0))), .inr (.inl (0, 30, (fun _ => 0))), .inr (.inl (1, 30, (fun _ => 0)))] : ga_H)) (q + 4) (by rw [List.length_append, hl]; rfl) (by omega)) fX6_init rfl kX6_init (Or.inr lkX8_28) dX8_init_38 rfl rfl (by decide) (Nat.le_of_ble_eq_true rfl) (by decide) (by decide) ?_
  rintro _ _ ⟨rfl, rfl⟩
  refine ga_eqh (h2 := h ++ ([.inl (8, [Vi 0, Vr (q + 1), Vr (q + 2), Vr (q + 3), Vn, Vn, Vn, Vn, Vn, Vn, Vn]), .inr (.inl (0, 30, (fun _ => 0))), .inr (.inl (0, 30, (fun _ => 0))), .inr (.inl (1, 30, (fun _ => 0))), .inl (6, [Vr (q + 5), Vi 0, Vr (q + 6), Vr (q + 7)]), .inr (.inl (0, 40, (fun _ => 0))), .inr (.inl (0, 4, (fun _ => 0))), .inr (.inl (0, 4, (fun _ => 0)))] : ga_H)) (List.append_assoc h ([.inl (8, [Vi 0, Vr (q + 1), Vr (q + 2), Vr (q + 3), Vn, Vn, Vn, Vn, Vn, Vn, Vn]), .inr (.inl (0, 30, (fun _ => 0))), .inr (.inl (0, 30, (fun _ => 0))), .inr (.inl (1, 30, (fun _ => 0)))] : ga_H) (cI_X6_init (q + 4))) ?_
  refine gb_putF 0 [.inl (8, [Vi 0, Vr (q + 1), Vr (q + 2), Vr (q + 3), Vr (q + 4), Vn, Vn, Vn, Vn, Vn, Vn]), .inr (.inl (0, 30, (fun _ => 0))), .inr (.inl (0, 30, (fun _ => 0))), .inr (.inl (1, 30, (fun _ => 0))), .inl (6, [Vr (q + 5), Vi 0, Vr (q + 6), Vr (q + 7)]), .inr (.inl (0, 40, (fun _ => 0))), .inr (.inl (0, 4, (fun _ => 0))), .inr (.inl (0, 4, (fun _ => 0)))] hl rfl gfX8_29 dX8_init_41 rfl rfl (Nat.le_of_ble_eq_true rfl) (fun _ => rfl) (fun _ => rfl) rfl ?_
  refine ga_aload_n dX8_init_44 rfl ?_
  refine gb_new 8 [.inl (8, [Vi 0, Vr (q + 1), Vr (q + 2), Vr (q + 3), Vr (q + 4), Vn, Vn, Vn, Vn, Vn, Vn]), .inr (.inl (0, 30, (fun _ => 0))), .inr (.inl (0, 30, (fun _ => 0))), .inr (.inl (1, 30, (fun _ => 0))), .inl (6, [Vr (q + 5), Vi 0, Vr (q + 6), Vr (q + 7)]), .inr (.inl (0, 40, (fun _ => 0))), .inr (.inl (0, 4, (fun _ => 0))), .inr (.inl (0, 4, (fun _ => 0))), .inl (6, [Vn, Vi 0, Vn, Vn])] hl (by omega) rfl nsX8_26 dX8_init_45 (by decide) (by decide) (by decide) rfl ?_
  refine ga_dup dX8_init_48 rfl ?_
  refine ga_eqh (h2 := (h ++ ([.inl (8, [Vi 0, Vr (q + 1), Vr (q + 2), Vr (q + 3), Vr (q + 4), Vn, Vn, Vn, Vn, Vn, Vn]), .inr (.inl (0, 30, (fun _ => 0))), .inr (.inl (0, 30, (fun _ => 0))), .inr (.inl (1, 30, (fun _ => 0))), .inl (6, [Vr (q + 5), Vi 0, Vr (q + 6), Vr (q + 7)]), .inr (.inl (0, 40, (fun _ => 0))), .inr (.inl (0, 4, (fun _ => 0))), .inr (.inl (0, 4, (fun _ => 0)))] : ga_H)) ++ ([.inl (6, [Vn, Vi 0, Vn, Vn])] : ga_H)) (List.append_assoc h ([.inl (8, [Vi 0, Vr (q + 1), Vr (q + 2), Vr (q + 3), Vr (q + 4), Vn, Vn, Vn, Vn, Vn, Vn]), .inr (.inl (0, 30, (fun _ => 0))), .inr (.inl (0, 30, (fun _ => 0))), .inr (.inl (1, 30, (fun _ => 0))), .inl (6, [Vr (q + 5), Vi 0, Vr (q + 6), Vr (q + 7)]), .inr (.inl (0, 40, (fun _ => 0))), .inr (.inl (0, 4, (fun _ => 0))), .inr (.inl (0, 4, (fun _ => 0)))] : ga_H) ([.inl (6, [Vn, Vi 0, Vn, Vn])] : ga_H)).symm ?_
  refine ga_callI (T_X6_init (h ++ ([.inl (8, [Vi 0, Vr (q + 1), Vr (q + 2), Vr (q + 3), Vr (q + 4), Vn, Vn, Vn, Vn, Vn, Vn]), .inr (.inl (0, 30, (fun _ => 0))), .inr (.inl (0, 30, (fun _ => 0))), .inr (.inl (1, 30, (fun _ => 0))), .inl (6, [Vr (q + 5), Vi 0, Vr (q + 6), Vr (q + 7)]), .inr (.inl (0, 40, (fun _ => 0))), .inr (.inl (0, 4, (fun _ => 0))), .inr (.inl (0, 4, (fun _ => 0)))] : ga_H)) (q + 8) (by rw [List.length_append, hl]; rfl) (by omega)) fX6_init rfl kX6_init (Or.inr lkX8_28) dX8_init_49 rfl rfl (by decide) (Nat.le_of_ble_eq_true rfl) (by decide) (by decide) ?_
  rintro _ _ ⟨rfl, rfl⟩
  refine ga_eqh (h2 := h ++ ([.inl (8, [Vi 0, Vr (q + 1), Vr (q + 2), Vr (q + 3), Vr (q + 4), Vn, Vn, Vn, Vn, Vn, Vn]), .inr (.inl (0, 30, (fun _ => 0))), .inr (.inl (0, 30, (fun _ => 0))), .inr (.inl (1, 30, (fun _ => 0))), .inl (6, [Vr (q + 5), Vi 0, Vr (q + 6), Vr (q + 7)]), .inr (.inl (0, 40, (fun _ => 0))), .inr (.inl (0, 4, (fun _ => 0))), .inr (.inl (0, 4, (fun _ => 0))), .inl (6, [Vr (q + 9), Vi 0, Vr (q + 10), Vr (q + 11)]), .inr (.inl (0, 40, (fun _ => 0))), .inr (.inl (0, 4, (fun _ => 0))), .inr (.inl (0, 4, (fun _ => 0)))] : ga_H)) (List.append_assoc h ([.inl (8, [Vi 0, Vr (q + 1), Vr (q + 2), Vr (q + 3), Vr (q + 4), Vn, Vn, Vn, Vn, Vn, Vn]), .inr (.inl (0, 30, (fun _ => 0))), .inr (.inl (0, 30, (fun _ => 0))), .inr (.inl (1, 30, (fun _ => 0))), .inl (6, [Vr (q + 5), Vi 0, Vr (q + 6), Vr (q + 7)]), .inr (.inl (0, 40, (fun _ => 0))), .inr (.inl (0, 4, (fun _ => 0))), .inr (.inl (0, 4, (fun _ => 0)))] : ga_H) (cI_X6_init (q + 8))) ?_
  refine gb_putF 0 [.inl (8, [Vi 0, Vr (q + 1), Vr (q + 2), Vr (q + 3), Vr (q + 4), Vr (q + 8), Vn, Vn, Vn, Vn, Vn]), .inr (.inl (0, 30, (fun _ => 0))), .inr (.inl (0, 30, (fun _ => 0))), .inr (.inl (1, 30, (fun _ => 0))), .inl (6, [Vr (q + 5), Vi 0, Vr (q + 6), Vr (q + 7)]), .inr (.inl (0, 40, (fun _ => 0))), .inr (.inl (0, 4, (fun _ => 0))), .inr (.inl (0, 4, (fun _ => 0))), .inl (6, [Vr (q + 9), Vi 0, Vr (q + 10), Vr (q + 11)]), .inr (.inl (0, 40, (fun _ => 0))), .inr (.inl (0, 4, (fun _ => 0))), .inr (.inl (0, 4, (fun _ => 0)))] hl rfl gfX8_33 dX8_init_52 rfl rfl (Nat.le_of_ble_eq_true rfl) (fun _ => rfl) (fun _ => rfl) rfl ?_
  refine ga_aload_n dX8_init_55 rfl ?_
  refine ga_iconst dX8_init_56 ⟨by decide, by decide⟩ ?_
  refine gb_newa_int 12 4 [.inl (8, [Vi 0, Vr (q + 1), Vr (q + 2), Vr (q + 3), Vr (q + 4), Vr (q + 8), Vn, Vn, Vn, Vn, Vn]), .inr (.inl (0, 30, (fun _ => 0))), .inr (.inl (0, 30, (fun _ => 0))), .inr (.inl (1, 30, (fun _ => 0))), .inl (6, [Vr (q + 5), Vi 0, Vr (q + 6), Vr (q + 7)]), .inr (.inl (0, 40, (fun _ => 0))), .inr (.inl (0, 4, (fun _ => 0))), .inr (.inl (0, 4, (fun _ => 0))), .inl (6, [Vr (q + 9), Vi 0, Vr (q + 10), Vr (q + 11)]), .inr (.inl (0, 40, (fun _ => 0))), .inr (.inl (0, 4, (fun _ => 0))), .inr (.inl (0, 4, (fun _ => 0))), .inr (.inl (0, 4, (fun _ => 0)))] hl (by omega) rfl acI dX8_init_57 rfl (by decide) (by decide) (by decide) (by decide) rfl ?_
  refine gb_putF 0 [.inl (8, [Vi 0, Vr (q + 1), Vr (q + 2), Vr (q + 3), Vr (q + 4), Vr (q + 8), Vr (q + 12), Vn, Vn, Vn, Vn]), .inr (.inl (0, 30, (fun _ => 0))), .inr (.inl (0, 30, (fun _ => 0))), .inr (.inl (1, 30, (fun _ => 0))), .inl (6, [Vr (q + 5), Vi 0, Vr (q + 6), Vr (q + 7)]), .inr (.inl (0, 40, (fun _ => 0))), .inr (.inl (0, 4, (fun _ => 0))), .inr (.inl (0, 4, (fun _ => 0))), .inl (6, [Vr (q + 9), Vi 0, Vr (q + 10), Vr (q + 11)]), .inr (.inl (0, 40, (fun _ => 0))), .inr (.inl (0, 4, (fun _ => 0))), .inr (.inl (0, 4, (fun _ => 0))), .inr (.inl (0, 4, (fun _ => 0)))] hl rfl gfX8_36 dX8_init_59 rfl rfl (Nat.le_of_ble_eq_true rfl) (fun _ => rfl) (fun _ => rfl) rfl ?_
  refine ga_aload_n dX8_init_62 rfl ?_
  refine ga_bipush dX8_init_63 ⟨by decide, by decide⟩ (by decide) ?_
  refine gb_newa_int 13 30 [.inl (8, [Vi 0, Vr (q + 1), Vr (q + 2), Vr (q + 3), Vr (q + 4), Vr (q + 8), Vr (q + 12), Vn, Vn, Vn, Vn]), .inr (.inl (0, 30, (fun _ => 0))), .inr (.inl (0, 30, (fun _ => 0))), .inr (.inl (1, 30, (fun _ => 0))), .inl (6, [Vr (q + 5), Vi 0, Vr (q + 6), Vr (q + 7)]), .inr (.inl (0, 40, (fun _ => 0))), .inr (.inl (0, 4, (fun _ => 0))), .inr (.inl (0, 4, (fun _ => 0))), .inl (6, [Vr (q + 9), Vi 0, Vr (q + 10), Vr (q + 11)]), .inr (.inl (0, 40, (fun _ => 0))), .inr (.inl (0, 4, (fun _ => 0))), .inr (.inl (0, 4, (fun _ => 0))), .inr (.inl (0, 4, (fun _ => 0))), .inr (.inl (0, 30, (fun _ => 0)))] hl (by omega) rfl acI dX8_init_65 rfl (by decide) (by decide) (by decide) (by decide) rfl ?_
  refine gb_putF 0 [.inl (8, [Vi 0, Vr (q + 1), Vr (q + 2), Vr (q + 3), Vr (q + 4), Vr (q + 8), Vr (q + 12), Vr (q + 13), Vn, Vn, Vn]), .inr (.inl (0, 30, (fun _ => 0))), .inr (.inl (0, 30, (fun _ => 0))), .inr (.inl (1, 30, (fun _ => 0))), .inl (6, [Vr (q + 5), Vi 0, Vr (q + 6), Vr (q + 7)]), .inr (.inl (0, 40, (fun _ => 0))), .inr (.inl (0, 4, (fun _ => 0))), .inr (.inl (0, 4, (fun _ => 0))), .inl (6, [Vr (q + 9), Vi 0, Vr (q + 10), Vr (q + 11)]), .inr (.inl (0, 40, (fun _ => 0))), .inr (.inl (0, 4, (fun _ => 0))), .inr (.inl (0, 4, (fun _ => 0))), .inr (.inl (0, 4, (fun _ => 0))), .inr (.inl (0, 30, (fun _ => 0)))] hl rfl gfX8_39 dX8_init_67 rfl rfl (Nat.le_of_ble_eq_true rfl) (fun _ => rfl) (fun _ => rfl) rfl ?_
  refine ga_aload_n dX8_init_70 rfl ?_
  refine ga_bipush dX8_init_71 ⟨by decide, by decide⟩ (by decide) ?_
  refine gb_newa_int 14 120 [.inl (8, [Vi 0, Vr (q + 1), Vr (q + 2), Vr (q + 3), Vr (q + 4), Vr (q + 8), Vr (q + 12), Vr (q + 13), Vn, Vn, Vn]), .inr (.inl (0, 30, (fun _ => 0))), .inr (.inl (0, 30, (fun _ => 0))), .inr (.inl (1, 30, (fun _ => 0))), .inl (6, [Vr (q + 5), Vi 0, Vr (q + 6), Vr (q + 7)]), .inr (.inl (0, 40, (fun _ => 0))), .inr (.inl (0, 4, (fun _ => 0))), .inr (.inl (0, 4, (fun _ => 0))), .inl (6, [Vr (q + 9), Vi 0, Vr (q + 10), Vr (q + 11)]), .inr (.inl (0, 40, (fun _ => 0))), .inr (.inl (0, 4, (fun _ => 0))), .inr (.inl (0, 4, (fun _ => 0))), .inr (.inl (0, 4, (fun _ => 0))), .inr (.inl (0, 30, (fun _ => 0))), .inr (.inl (0, 120, (fun _ => 0)))] hl (by omega) rfl acI dX8_init_73 rfl (by decide) (by decide) (by decide) (by decide) rfl ?_
  refine gb_putF 0 [.inl (8, [Vi 0, Vr (q + 1), Vr (q + 2), Vr (q + 3), Vr (q + 4), Vr (q + 8), Vr (q + 12), Vr (q + 13), Vr (q + 14), Vn, Vn]), .inr (.inl (0, 30, (fun _ => 0))), .inr (.inl (0, 30, (fun _ => 0))), .inr (.inl (1, 30, (fun _ => 0))), .inl (6, [Vr (q + 5), Vi 0, Vr (q + 6), Vr (q + 7)]), .inr (.inl (0, 40, (fun _ => 0))), .inr (.inl (0, 4, (fun _ => 0))), .inr (.inl (0, 4, (fun _ => 0))), .inl (6, [Vr (q + 9), Vi 0, Vr (q + 10), Vr (q + 11)]), .inr (.inl (0, 40, (fun _ => 0))), .inr (.inl (0, 4, (fun _ => 0))), .inr (.inl (0, 4, (fun _ => 0))), .inr (.inl (0, 4, (fun _ => 0))), .inr (.inl (0, 30, (fun _ => 0))), .inr (.inl (0, 120, (fun _ => 0)))] hl rfl gfX8_42 dX8_init_75 rfl rfl (Nat.le_of_ble_eq_true rfl) (fun _ => rfl) (fun _ => rfl) rfl ?_
  refine ga_aload_n dX8_init_78 rfl ?_
  refine ga_bipush dX8_init_79 ⟨by decide, by decide⟩ (by decide) ?_
  refine gb_newa_int 15 120 [.inl (8, [Vi 0, Vr (q + 1), Vr (q + 2), Vr (q + 3), Vr (q + 4), Vr (q + 8), Vr (q + 12), Vr (q + 13), Vr (q + 14), Vn, Vn]), .inr (.inl (0, 30, (fun _ => 0))), .inr (.inl (0, 30, (fun _ => 0))), .inr (.inl (1, 30, (fun _ => 0))), .inl (6, [Vr (q + 5), Vi 0, Vr (q + 6), Vr (q + 7)]), .inr (.inl (0, 40, (fun _ => 0))), .inr (.inl (0, 4, (fun _ => 0))), .inr (.inl (0, 4, (fun _ => 0))), .inl (6, [Vr (q + 9), Vi 0, Vr (q + 10), Vr (q + 11)]), .inr (.inl (0, 40, (fun _ => 0))), .inr (.inl (0, 4, (fun _ => 0))), .inr (.inl (0, 4, (fun _ => 0))), .inr (.inl (0, 4, (fun _ => 0))), .inr (.inl (0, 30, (fun _ => 0))), .inr (.inl (0, 120, (fun _ => 0))), .inr (.inl (0, 120, (fun _ => 0)))] hl (by omega) rfl acI dX8_init_81 rfl (by decide) (by decide) (by decide) (by decide) rfl ?_
  refine gb_putF 0 [.inl (8, [Vi 0, Vr (q + 1), Vr (q + 2), Vr (q + 3), Vr (q + 4), Vr (q + 8), Vr (q + 12), Vr (q + 13), Vr (q + 14), Vr (q + 15), Vn]), .inr (.inl (0, 30, (fun _ => 0))), .inr (.inl (0, 30, (fun _ => 0))), .inr (.inl (1, 30, (fun _ => 0))), .inl (6, [Vr (q + 5), Vi 0, Vr (q + 6), Vr (q + 7)]), .inr (.inl (0, 40, (fun _ => 0))), .inr (.inl (0, 4, (fun _ => 0))), .inr (.inl (0, 4, (fun _ => 0))), .inl (6, [Vr (q + 9), Vi 0, Vr (q + 10), Vr (q + 11)]), .inr (.inl (0, 40, (fun _ => 0))), .inr (.inl (0, 4, (fun _ => 0))), .inr (.inl (0, 4, (fun _ => 0))), .inr (.inl (0, 4, (fun _ => 0))), .inr (.inl (0, 30, (fun _ => 0))), .inr (.inl (0, 120, (fun _ => 0))), .inr (.inl (0, 120, (fun _ => 0)))] hl rfl gfX8_45 dX8_init_83 rfl rfl (Nat.le_of_ble_eq_true rfl) (fun _ => rfl) (fun _ => rfl) rfl ?_
  refine ga_aload_n dX8_init_86 rfl ?_
  refine ga_bipush dX8_init_87 ⟨by decide, by decide⟩ (by decide) ?_
  refine gb_newa_int 16 120 [.inl (8, [Vi 0, Vr (q + 1), Vr (q + 2), Vr (q + 3), Vr (q + 4), Vr (q + 8), Vr (q + 12), Vr (q + 13), Vr (q + 14), Vr (q + 15), Vn]), .inr (.inl (0, 30, (fun _ => 0))), .inr (.inl (0, 30, (fun _ => 0))), .inr (.inl (1, 30, (fun _ => 0))), .inl (6, [Vr (q + 5), Vi 0, Vr (q + 6), Vr (q + 7)]), .inr (.inl (0, 40, (fun _ => 0))), .inr (.inl (0, 4, (fun _ => 0))), .inr (.inl (0, 4, (fun _ => 0))), .inl (6, [Vr (q + 9), Vi 0, Vr (q + 10), Vr (q + 11)]), .inr (.inl (0, 40, (fun _ => 0))), .inr (.inl (0, 4, (fun _ => 0))), .inr (.inl (0, 4, (fun _ => 0))), .inr (.inl (0, 4, (fun _ => 0))), .inr (.inl (0, 30, (fun _ => 0))), .inr (.inl (0, 120, (fun _ => 0))), .inr (.inl (0, 120, (fun _ => 0))), .inr (.inl (0, 120, (fun _ => 0)))] hl (by omega) rfl acI dX8_init_89 rfl (by decide) (by decide) (by decide) (by decide) rfl ?_
  refine gb_putF 0 [.inl (8, [Vi 0, Vr (q + 1), Vr (q + 2), Vr (q + 3), Vr (q + 4), Vr (q + 8), Vr (q + 12), Vr (q + 13), Vr (q + 14), Vr (q + 15), Vr (q + 16)]), .inr (.inl (0, 30, (fun _ => 0))), .inr (.inl (0, 30, (fun _ => 0))), .inr (.inl (1, 30, (fun _ => 0))), .inl (6, [Vr (q + 5), Vi 0, Vr (q + 6), Vr (q + 7)]), .inr (.inl (0, 40, (fun _ => 0))), .inr (.inl (0, 4, (fun _ => 0))), .inr (.inl (0, 4, (fun _ => 0))), .inl (6, [Vr (q + 9), Vi 0, Vr (q + 10), Vr (q + 11)]), .inr (.inl (0, 40, (fun _ => 0))), .inr (.inl (0, 4, (fun _ => 0))), .inr (.inl (0, 4, (fun _ => 0))), .inr (.inl (0, 4, (fun _ => 0))), .inr (.inl (0, 30, (fun _ => 0))), .inr (.inl (0, 120, (fun _ => 0))), .inr (.inl (0, 120, (fun _ => 0))), .inr (.inl (0, 120, (fun _ => 0)))] hl rfl gfX8_48 dX8_init_91 rfl rfl (Nat.le_of_ble_eq_true rfl) (fun _ => rfl) (fun _ => rfl) rfl ?_
  refine ga_ret (v := none) ?_ rfl (by decide) (by decide) ⟨dX8_init_94, rfl⟩
  exact ⟨rfl, rfl⟩
def cI_X5_forget (q : Nat) : ga_H := [.inl (5, [Vi 0, Vr (q + 1), Vr (q + 2), Vr (q + 3), Vr (q + 4)]), .inr (.inl (0, 30, (fillF (fun _ => 0) (30 : Nat) (-1)))), .inr (.inl (0, 30, (fillF (fun _ => 0) (30 : Nat) (-1)))), .inr (.inl (0, 40, (fillF (fun _ => 0) (40 : Nat) (-1)))), .inr (.inl (0, 40, (fillF (fun _ => 0) (40 : Nat) (-1))))]
theorem T_I_X5_forget (h : ga_H) (q : Nat) (hl : h.length = q) : ga_Mt 1 0 0 mX5_forget [Vr q] (h ++ [.inl (5, [Vi 0, Vr (q + 1), Vr (q + 2), Vr (q + 3), Vr (q + 4)]), .inr (.inl (0, 30, (fun _ => 0))), .inr (.inl (0, 30, (fun _ => 0))), .inr (.inl (0, 40, (fun _ => 0))), .inr (.inl (0, 40, (fun _ => 0)))]) (fun v h2 => v = none ∧ h2 = h ++ cI_X5_forget q) ga_nox := by
  refine ga_meth [some (Vr q)] rfl rfl (by decide +kernel) (Nat.le_of_ble_eq_true rfl) rfl ?_
  refine ga_aload_n dX5_forget_0 rfl ?_
  refine ga_iconst dX5_forget_1 ⟨by decide, by decide⟩ ?_
  refine gb_put 0 [.inl (5, [Vi 0, Vr (q + 1), Vr (q + 2), Vr (q + 3), Vr (q + 4)]), .inr (.inl (0, 30, (fun _ => 0))), .inr (.inl (0, 30, (fun _ => 0))), .inr (.inl (0, 40, (fun _ => 0))), .inr (.inl (0, 40, (fun _ => 0)))] hl rfl gfX5_9 dX5_forget_2 rfl (Nat.le_of_ble_eq_true rfl) (fun _ => rfl) (fun _ => rfl) rfl ?_
  refine ga_aload_n dX5_forget_5 rfl ?_
  refine gb_get 0 hl rfl grX5_15 dX5_forget_6 rfl rfl ?_
  refine ga_iconst dX5_forget_9 ⟨by decide, by decide⟩ ?_
  refine ga_callS (T_fill (gb_at (k := 1) hl rfl) (by decide)) fJ7_fill_53178 rfl kJ7_fill_53178 lkX5_31 dX5_forget_10 rfl rfl (by decide) (Nat.le_of_ble_eq_true rfl) (by decide) (by decide) ?_
  rintro _ _ ⟨rfl, rfl⟩
  refine ga_eqh (h2 := h ++ [.inl (5, [Vi 0, Vr (q + 1), Vr (q + 2), Vr (q + 3), Vr (q + 4)]), .inr (.inl (0, 30, (fillF (fun _ => 0) (30 : Nat) (-1)))), .inr (.inl (0, 30, (fun _ => 0))), .inr (.inl (0, 40, (fun _ => 0))), .inr (.inl (0, 40, (fun _ => 0)))]) ((gb_set hl).trans rfl) ?_
  refine ga_aload_n dX5_forget_13 rfl ?_
  refine gb_get 0 hl rfl grX5_19 dX5_forget_14 rfl rfl ?_
  refine ga_iconst dX5_forget_17 ⟨by decide, by decide⟩ ?_
  refine ga_callS (T_fill (gb_at (k := 2) hl rfl) (by decide)) fJ7_fill_53178 rfl kJ7_fill_53178 lkX5_31 dX5_forget_18 rfl rfl (by decide) (Nat.le_of_ble_eq_true rfl) (by decide) (by decide) ?_
  rintro _ _ ⟨rfl, rfl⟩
  refine ga_eqh (h2 := h ++ [.inl (5, [Vi 0, Vr (q + 1), Vr (q + 2), Vr (q + 3), Vr (q + 4)]), .inr (.inl (0, 30, (fillF (fun _ => 0) (30 : Nat) (-1)))), .inr (.inl (0, 30, (fillF (fun _ => 0) (30 : Nat) (-1)))), .inr (.inl (0, 40, (fun _ => 0))), .inr (.inl (0, 40, (fun _ => 0)))]) ((gb_set hl).trans rfl) ?_
  refine ga_aload_n dX5_forget_21 rfl ?_
  refine gb_get 0 hl rfl grX5_22 dX5_forget_22 rfl rfl ?_
  refine ga_iconst dX5_forget_25 ⟨by decide, by decide⟩ ?_
  refine ga_callS (T_fill (gb_at (k := 3) hl rfl) (by decide)) fJ7_fill_53178 rfl kJ7_fill_53178 lkX5_31 dX5_forget_26 rfl rfl (by decide) (Nat.le_of_ble_eq_true rfl) (by decide) (by decide) ?_
  rintro _ _ ⟨rfl, rfl⟩
  refine ga_eqh (h2 := h ++ [.inl (5, [Vi 0, Vr (q + 1), Vr (q + 2), Vr (q + 3), Vr (q + 4)]), .inr (.inl (0, 30, (fillF (fun _ => 0) (30 : Nat) (-1)))), .inr (.inl (0, 30, (fillF (fun _ => 0) (30 : Nat) (-1)))), .inr (.inl (0, 40, (fillF (fun _ => 0) (40 : Nat) (-1)))), .inr (.inl (0, 40, (fun _ => 0)))]) ((gb_set hl).trans rfl) ?_
  refine ga_aload_n dX5_forget_29 rfl ?_
  refine gb_get 0 hl rfl grX5_25 dX5_forget_30 rfl rfl ?_
  refine ga_iconst dX5_forget_33 ⟨by decide, by decide⟩ ?_
  refine ga_callS (T_fill (gb_at (k := 4) hl rfl) (by decide)) fJ7_fill_53178 rfl kJ7_fill_53178 lkX5_31 dX5_forget_34 rfl rfl (by decide) (Nat.le_of_ble_eq_true rfl) (by decide) (by decide) ?_
  rintro _ _ ⟨rfl, rfl⟩
  refine ga_eqh (h2 := h ++ [.inl (5, [Vi 0, Vr (q + 1), Vr (q + 2), Vr (q + 3), Vr (q + 4)]), .inr (.inl (0, 30, (fillF (fun _ => 0) (30 : Nat) (-1)))), .inr (.inl (0, 30, (fillF (fun _ => 0) (30 : Nat) (-1)))), .inr (.inl (0, 40, (fillF (fun _ => 0) (40 : Nat) (-1)))), .inr (.inl (0, 40, (fillF (fun _ => 0) (40 : Nat) (-1))))]) ((gb_set hl).trans rfl) ?_
  refine ga_ret (v := none) ?_ rfl (by decide) (by decide) ⟨dX5_forget_37, rfl⟩
  exact ⟨rfl, rfl⟩
def cI_X5_init (q : Nat) : ga_H := [.inl (5, [Vi 0, Vr (q + 1), Vr (q + 2), Vr (q + 3), Vr (q + 4)]), .inr (.inl (0, 30, (fillF (fun _ => 0) (30 : Nat) (-1)))), .inr (.inl (0, 30, (fillF (fun _ => 0) (30 : Nat) (-1)))), .inr (.inl (0, 40, (fillF (fun _ => 0) (40 : Nat) (-1)))), .inr (.inl (0, 40, (fillF (fun _ => 0) (40 : Nat) (-1))))]
theorem T_X5_init (h : ga_H) (q : Nat) (hl : h.length = q) (hq9 : q ≤ 900) : ga_Mt 2 4 140 mX5_init [Vr q] (h ++ [.inl (5, [Vi 0, Vn, Vn, Vn, Vn])]) (fun v h2 => v = none ∧ h2 = h ++ cI_X5_init q) ga_nox := by
  refine ga_meth [some (Vr q)] rfl rfl (by decide +kernel) (Nat.le_of_ble_eq_true rfl) rfl ?_
  refine ga_aload_n dX5_init_0 rfl ?_
  refine ga_objInit lkX5_3 ow2 ow3 dX5_init_1 (by decide) (Nat.le_of_ble_eq_true rfl) ?_
  refine ga_aload_n dX5_init_4 rfl ?_
  refine ga_iconst dX5_init_5 ⟨by decide, by decide⟩ ?_
  refine gb_put 0 [.inl (5, [Vi 0, Vn, Vn, Vn, Vn])] hl rfl gfX5_9 dX5_init_6 rfl (Nat.le_of_ble_eq_true rfl) (fun _ => rfl) (fun _ => rfl) rfl ?_
  refine ga_aload_n dX5_init_9 rfl ?_
  refine ga_bipush dX5_init_10 ⟨by decide, by decide⟩ (by decide) ?_
  refine gb_newa_int 1 30 [.inl (5, [Vi 0, Vn, Vn, Vn, Vn]), .inr (.inl (0, 30, (fun _ => 0)))] hl (by omega) rfl acI dX5_init_12 rfl (by decide) (by decide) (by decide) (by decide) rfl ?_
  refine gb_putF 0 [.inl (5, [Vi 0, Vr (q + 1), Vn, Vn, Vn]), .inr (.inl (0, 30, (fun _ => 0)))] hl rfl gfX5_15 dX5_init_14 rfl rfl (Nat.le_of_ble_eq_true rfl) (fun _ => rfl) (fun _ => rfl) rfl ?_
  refine ga_aload_n dX5_init_17 rfl ?_
  refine ga_bipush dX5_init_18 ⟨by decide, by decide⟩ (by decide) ?_
  refine gb_newa_int 2 30 [.inl (5, [Vi 0, Vr (q + 1), Vn, Vn, Vn]), .inr (.inl (0, 30, (fun _ => 0))), .inr (.inl (0, 30, (fun _ => 0)))] hl (by omega) rfl acI dX5_init_20 rfl (by decide) (by decide) (by decide) (by decide) rfl ?_
  refine gb_putF 0 [.inl (5, [Vi 0, Vr (q + 1), Vr (q + 2), Vn, Vn]), .inr (.inl (0, 30, (fun _ => 0))), .inr (.inl (0, 30, (fun _ => 0)))] hl rfl gfX5_19 dX5_init_22 rfl rfl (Nat.le_of_ble_eq_true rfl) (fun _ => rfl) (fun _ => rfl) rfl ?_
  refine ga_aload_n dX5_init_25 rfl ?_
  refine ga_bipush dX5_init_26 ⟨by decide, by decide⟩ (by decide) ?_
  refine gb_newa_int 3 40 [.inl (5, [Vi 0, Vr (q + 1), Vr (q + 2), Vn, Vn]), .inr (.inl (0, 30, (fun _ => 0))), .inr (.inl (0, 30, (fun _ => 0))), .inr (.inl (0, 40, (fun _ => 0)))] hl (by omega) rfl acI dX5_init_28 rfl (by decide) (by decide) (by decide) (by decide) rfl ?_
  refine gb_putF 0 [.inl (5, [Vi 0, Vr (q + 1), Vr (q + 2), Vr (q + 3), Vn]), .inr (.inl (0, 30, (fun _ => 0))), .inr (.inl (0, 30, (fun _ => 0))), .inr (.inl (0, 40, (fun _ => 0)))] hl rfl gfX5_22 dX5_init_30 rfl rfl (Nat.le_of_ble_eq_true rfl) (fun _ => rfl) (fun _ => rfl) rfl ?_
  refine ga_aload_n dX5_init_33 rfl ?_
  refine ga_bipush dX5_init_34 ⟨by decide, by decide⟩ (by decide) ?_
  refine gb_newa_int 4 40 [.inl (5, [Vi 0, Vr (q + 1), Vr (q + 2), Vr (q + 3), Vn]), .inr (.inl (0, 30, (fun _ => 0))), .inr (.inl (0, 30, (fun _ => 0))), .inr (.inl (0, 40, (fun _ => 0))), .inr (.inl (0, 40, (fun _ => 0)))] hl (by omega) rfl acI dX5_init_36 rfl (by decide) (by decide) (by decide) (by decide) rfl ?_
  refine gb_putF 0 [.inl (5, [Vi 0, Vr (q + 1), Vr (q + 2), Vr (q + 3), Vr (q + 4)]), .inr (.inl (0, 30, (fun _ => 0))), .inr (.inl (0, 30, (fun _ => 0))), .inr (.inl (0, 40, (fun _ => 0))), .inr (.inl (0, 40, (fun _ => 0)))] hl rfl gfX5_25 dX5_init_38 rfl rfl (Nat.le_of_ble_eq_true rfl) (fun _ => rfl) (fun _ => rfl) rfl ?_
  refine ga_aload_n dX5_init_41 rfl ?_
  refine ga_callV (T_I_X5_forget h q hl) fX5_forget rfl kX5_forget lkX5_28 dX5_init_42 rfl rfl (by decide) (gb_at (k := 0) hl rfl) rfl (Nat.le_of_ble_eq_true rfl) (by decide) (by decide) ?_
  rintro _ _ ⟨rfl, rfl⟩
  refine ga_ret (v := none) ?_ rfl (by decide) (by decide) ⟨dX5_init_45, rfl⟩
  exact ⟨rfl, rfl⟩
def cI_X2_init (q : Nat) : ga_H := [.inl (2, [Vi 0, Vr (q + 1), Vr (q + 2)]), .inr (.inl (0, 356, (fun _ => 0))), .inr (.inl (1, 60, (fun _ => 0)))]
theorem T_X2_init (h : ga_H) (q : Nat) (hl : h.length = q) (hq9 : q ≤ 1000) : ga_Mt 1 2 416 mX2_init [Vr q] (h ++ [.inl (2, [Vi 0, Vn, Vn])]) (fun v h2 => v = none ∧ h2 = h ++ cI_X2_init q) ga_nox := by
  refine ga_meth [some (Vr q)] rfl rfl (by decide +kernel) (Nat.le_of_ble_eq_true rfl) rfl ?_
  refine ga_aload_n dX2_init_0 rfl ?_
  refine ga_objInit lkX2_3 ow2 ow3 dX2_init_1 (by decide) (Nat.le_of_ble_eq_true rfl) ?_
  refine ga_aload_n dX2_init_4 rfl ?_
  refine ga_iconst dX2_init_5 ⟨by decide, by decide⟩ ?_
  refine gb_put 0 [.inl (2, [Vi 0, Vn, Vn])] hl rfl gfX2_9 dX2_init_6 rfl (Nat.le_of_ble_eq_true rfl) (fun _ => rfl) (fun _ => rfl) rfl ?_
  refine ga_aload_n dX2_init_9 rfl ?_
  refine ga_sipush dX2_init_10 ⟨by decide, by decide⟩ (by decide) ?_
  refine gb_newa_int 1 356 [.inl (2, [Vi 0, Vn, Vn]), .inr (.inl (0, 356, (fun _ => 0)))] hl (by omega) rfl acI dX2_init_13 rfl (by decide) (by decide) (by decide) (by decide) rfl ?_
  refine gb_putF 0 [.inl (2, [Vi 0, Vr (q + 1), Vn]), .inr (.inl (0, 356, (fun _ => 0)))] hl rfl gfX2_15 dX2_init_15 rfl rfl (Nat.le_of_ble_eq_true rfl) (fun _ => rfl) (fun _ => rfl) rfl ?_
  refine ga_aload_n dX2_init_18 rfl ?_
  refine ga_bipush dX2_init_19 ⟨by decide, by decide⟩ (by decide) ?_
  refine gb_newa_bool 2 60 [.inl (2, [Vi 0, Vr (q + 1), Vn]), .inr (.inl (0, 356, (fun _ => 0))), .inr (.inl (1, 60, (fun _ => 0)))] hl (by omega) rfl acZ dX2_init_21 rfl (by decide) (by decide) (by decide) (by decide) rfl ?_
  refine gb_putF 0 [.inl (2, [Vi 0, Vr (q + 1), Vr (q + 2)]), .inr (.inl (0, 356, (fun _ => 0))), .inr (.inl (1, 60, (fun _ => 0)))] hl rfl gfX2_19 dX2_init_23 rfl rfl (Nat.le_of_ble_eq_true rfl) (fun _ => rfl) (fun _ => rfl) rfl ?_
  refine ga_ret (v := none) ?_ rfl (by decide) (by decide) ⟨dX2_init_26, rfl⟩
  exact ⟨rfl, rfl⟩
