/-- a field's site: pool entry idx of class own is field k of the class ci -/
def ga_FS (own : String) (idx ci k : Nat) (fin : Bool) (ty : FieldType) : Prop :=
  ∃ (C : String) (T : u_T) (N : Nat) (ty0 : Nat → FieldType) (host : String), vwCl[ci]? = some (C, T, N) ∧ k < N ∧ (∀ w ∈ u_ws C T N, w ∈ ga_big) ∧ (∀ j, j < N → parseFieldDescriptor (T j).2.2.1 = some (ty0 j)) ∧ (∀ a, a < N → ∀ b, b < N → a ≠ b → (T a).2.1 ≠ (T b).2.1) ∧
    (Cond.fieldLink own idx (T k).1 (T k).2.1 (T k).2.2.1 ∈ ga_big ∨ Cond.fieldLinkNest own idx (T k).1 (T k).2.1 (T k).2.2.1 host ∈ ga_big) ∧ (T k).2.2.2 = fin ∧ parseFieldDescriptor (T k).2.2.1 = some ty ∧ (fin = true → (T k).1 = own ∧ Cond.fieldLink own idx (T k).1 (T k).2.1 (T k).2.2.1 ∈ ga_big)
/-- .. for reading -/
def ga_FR (own : String) (idx ci k : Nat) (ty : FieldType) : Prop :=
  ∃ (C : String) (T : u_T) (N : Nat) (host : String), vwCl[ci]? = some (C, T, N) ∧ k < N ∧ (∀ w ∈ u_ws C T N, w ∈ ga_big) ∧
    (Cond.fieldLink own idx (T k).1 (T k).2.1 (T k).2.2.1 ∈ ga_big ∨ Cond.fieldLinkNest own idx (T k).1 (T k).2.1 (T k).2.2.1 host ∈ ga_big) ∧ parseFieldDescriptor (T k).2.2.1 = some ty
theorem ga_hok {h : ga_H} (hoh : ga_okh h) {q : Nat} {c : ga_K} (hq : h[q]? = some c) : ga_okc h.length c := hoh c (List.mem_of_getElem? hq)
theorem ga_okh_set {h : ga_H} (hoh : ga_okh h) {q : Nat} {c : ga_K} (hc : ga_okc h.length c) : ga_okh (h.set q c) := fun d hd => by
  rw [List.length_set]
  rcases List.mem_or_eq_of_mem_set hd with z | z
  · exact hoh d z
  · rw [z]; exact hc
theorem ga_pic_set {G : va_G} {tc : Nat → ClassId} {A : Nat → Prop} {H0 H1 : Heap} {ad0 ad : Nat → Nat} {n0 : Nat} {h : ga_H} {locs1 : List Loc} {q : Nat} {c : ga_K} (hn0 : n0 ≤ h.length) (hag : ga_ag n0 ad0 ad) (hlen : h.length ≤ 900000) (hoh : ga_okh h) (hc : ga_okc h.length c)
    (hP : va_P G vwCl ((ga_w tc ad h).set q (ad q, ga_c tc ad c)) H1) (hD : va_D A ((ga_w tc ad h).set q (ad q, ga_c tc ad c))) (hS : va_S A H0 H1 locs1) : ga_Pic G tc A H0 ad0 ad n0 (h.set q c) H1 locs1 := by
  refine ⟨by rw [List.length_set]; exact hn0, hag, by rw [List.length_set]; exact hlen, ga_okh_set hoh hc, ?_, ?_, hS⟩
  · rw [ga_w_set]; exact hP
  · rw [ga_w_set]; exact hD
theorem ga_w_ag {tc : Nat → ClassId} {ad ad' : Nat → Nat} {h : ga_H} (hag : ga_ag h.length ad ad') (hoh : ga_okh h) : ga_w tc ad' h = ga_w tc ad h := by
  apply List.ext_getElem?
  intro i
  rw [ga_w_get, ga_w_get]
  cases hi : h[i]? with
  | none => rfl
  | some c =>
    show some (ad' i, _) = some (ad i, _)
    rw [ga_c_ag tc hag (ga_hok hoh hi), hag i (Or.inl (List.getElem?_eq_some_iff.mp hi).1)]
/-- the address of a new cell -/
def ga_ad (ad : Nat → Nat) (n q : Nat) : Nat → Nat := fun i => if i = n then q else ad i
theorem ga_ad_ag {ad : Nat → Nat} {n q : Nat} (hn : n ≤ 900000) : ga_ag n ad (ga_ad ad n q) := fun i hi => by
  unfold ga_ad
  rw [if_neg]
  rcases hi with z | z
  · omega
  · subst z; unfold ga_scr; omega
theorem ga_pic_push {G : va_G} {tc : Nat → ClassId} {A : Nat → Prop} {H0 H1 : Heap} {ad0 ad : Nat → Nat} {n0 q : Nat} {h : ga_H} {locs1 : List Loc} {c : ga_K} (hn0 : n0 ≤ h.length) (hag : ga_ag n0 ad0 ad) (hlen : h.length + 1 ≤ 900000) (hoh : ga_okh h) (hc : ga_okc (h.length + 1) c)
    (hP : va_P G vwCl (ga_w tc ad h ++ [(q, ga_c tc (ga_ad ad h.length q) c)]) H1) (hD : va_D A (ga_w tc ad h ++ [(q, ga_c tc (ga_ad ad h.length q) c)])) (hS : va_S A H0 H1 locs1) : ga_Pic G tc A H0 ad0 (ga_ad ad h.length q) n0 (h ++ [c]) H1 locs1 := by
  have hag2 : ga_ag h.length ad (ga_ad ad h.length q) := ga_ad_ag (by omega)
  have e : ga_w tc (ga_ad ad h.length q) (h ++ [c]) = ga_w tc ad h ++ [(q, ga_c tc (ga_ad ad h.length q) c)] := by
    rw [ga_w_push, ga_w_ag hag2 hoh]
    congr 3
    unfold ga_ad; rw [if_pos rfl]
  refine ⟨by rw [List.length_append]; exact Nat.le_trans hn0 (Nat.le_add_right _ _), fun i hi => ?_, by rw [List.length_append]; exact hlen, fun d hd => ?_, by rw [e]; exact hP, by rw [e]; exact hD, hS⟩
  · rw [← hag i hi]
    exact hag2 i (hi.elim (fun z => Or.inl (by omega)) Or.inr)
  · rw [List.length_append]
    rcases List.mem_append.mp hd with z | z
    · exact (hoh d z).mono (Nat.le_add_right _ _)
    · rw [List.mem_singleton.mp z]; exact hc
theorem ga_inL0 : ga_inL 0 := ⟨by decide, by decide⟩
section GaRules2
variable {t mc ms kc ks : Nat} {M : ga_M0} {P : ga_Po} {X : ga_Px} {pc : Nat} {lv : List (Option ga_V)} {st : List ga_V} {h : ga_H}
theorem ga_get {idx ci j q : Nat} {ty : FieldType} {fs : List ga_V} {v : ga_V} (hF : ga_FR (ga_y M).cls idx ci j ty) (hd : decode (ga_b M) pc = .ok (.getfield idx, 3)) (hq : h[q]? = some (.inl (ci, fs))) (hj : fs[j]? = some v) (k : ga_W t mc ms kc ks M P X (pc + 3) lv (v :: st) h) : ga_W t mc ms kc ks M P X pc lv (Vr q :: st) h := by
  intro p l e R s m args below meth c G tc A ad0 ad n0 H locs ls Q hC hP hl hol hos
  have hx := hC.1
  have hb := hC.2.1
  have hown := hC.2.2.2.2.1
  have hts := hC.2.2.2.2.2.1
  have hK := hC.2.2.2.2.2.2.1
  obtain ⟨hn0, hag, hlen, hoh, hPP, hPD, hPS⟩ := id hP
  obtain ⟨C, T, N, host, hc, hN, hin, hlk, hpt⟩ := hF
  have hv : (fs.map (ga_v ad))[j]? = some (ga_v ad v) := by rw [List.getElem?_map, hj]; rfl
  have hok : ga_ok h.length v := ga_hok hoh hq v (List.mem_of_getElem? hj)
  rcases hlk with hlk | hlk
  · exact va_get hx hb hts hin hown hK hPP q (ga_w_at hq) hc j hN (hts _ hlk) (fun _ z => z) hv hd (k p l e R s m args below meth c G tc A ad0 ad n0 H locs ls Q hC hP hl hol (ga_oks.cons hok hos.tail))
  · exact va_getN hx hb hts hin hown hK hPP q (ga_w_at hq) hc j hN (hts _ hlk) (fun _ z => z) hv hd (k p l e R s m args below meth c G tc A ad0 ad n0 H locs ls Q hC hP hl hol (ga_oks.cons hok hos.tail))
theorem ga_put {idx ci j q : Nat} {ty : FieldType} {fs : List ga_V} {v : ga_V} {h2 : ga_H} (hF : ga_FS (ga_y M).cls idx ci j false ty) (hd : decode (ga_b M) pc = .ok (.putfield idx, 3)) (hq : h[q]? = some (.inl (ci, fs))) (hj : j < fs.length) (hn : ∀ ad, narrow ty (ga_v ad v) = ga_v ad v) (hf : ∀ ad, fits ty (ga_v ad v) = true) (hh : h.set q (.inl (ci, fs.set j v)) = h2) (k : ga_W t mc ms kc ks M P X (pc + 3) lv st h2) : ga_W t mc ms kc ks M P X pc lv (v :: Vr q :: st) h := by
  intro p l e R s m args below meth c G tc A ad0 ad n0 H locs ls Q hC hP hl hol hos
  have hx := hC.1
  have hb := hC.2.1
  have hown := hC.2.2.2.2.1
  have hts := hC.2.2.2.2.2.1
  have hK := hC.2.2.2.2.2.2.1
  obtain ⟨hn0, hag, hlen, hoh, hPP, hPD, hPS⟩ := id hP
  subst hh
  obtain ⟨C, T, N, ty0, host, hc, hN, hin, hty, hnm, hlk, hfi, hpt, hfo⟩ := hF
  have hok : ga_okc h.length (.inl (ci, fs.set j v)) := fun w hw => by
    rcases List.mem_or_eq_of_mem_set hw with z | z
    · exact ga_hok hoh hq w z
    · rw [z]; exact hos.head
  have e9 : (Sum.inr (ci, (fs.map (ga_v ad)).set j (ga_v ad v)) : va_E) = ga_c tc ad (.inl (ci, fs.set j v)) := by
    show _ = Sum.inr (ci, (fs.set j v).map (ga_v ad))
    rw [List.map_set]
  rcases hlk with hlk | hlk
  · refine va_put hx hb hts hin ty0 hty hnm hown hK hPP hPD hPS q (ga_w_at hq) hc j hN (hts _ hlk) (fun _ z => z) hfi hpt (hn ad) (hf ad) (by rw [List.length_map]; exact hj) hd (fun H1 locs1 q1 q2 q3 => ?_)
    rw [e9] at q1 q2
    exact k p l e R s m args below meth c G tc A ad0 ad n0 H1 locs1 ls Q hC (ga_pic_set hn0 hag hlen hoh hok q1 q2 q3) hl (by rw [List.length_set]; exact hol) (by rw [List.length_set]; exact hos.tail.tail)
  · refine va_putN hx hb hts hin ty0 hty hnm hown hK hPP hPD hPS q (ga_w_at hq) hc j hN (hts _ hlk) (fun _ z => z) hfi hpt (hn ad) (hf ad) (by rw [List.length_map]; exact hj) hd (fun H1 locs1 q1 q2 q3 => ?_)
    rw [e9] at q1 q2
    exact k p l e R s m args below meth c G tc A ad0 ad n0 H1 locs1 ls Q hC (ga_pic_set hn0 hag hlen hoh hok q1 q2 q3) hl (by rw [List.length_set]; exact hol) (by rw [List.length_set]; exact hos.tail.tail)
theorem ga_putF {idx ci j q : Nat} {ty : FieldType} {fs : List ga_V} {v : ga_V} {h2 : ga_H} (hF : ga_FS (ga_y M).cls idx ci j true ty) (hd : decode (ga_b M) pc = .ok (.putfield idx, 3)) (hi2 : (ga_y M).name = "<init>") (hq : h[q]? = some (.inl (ci, fs))) (hj : j < fs.length) (hn : ∀ ad, narrow ty (ga_v ad v) = ga_v ad v) (hf : ∀ ad, fits ty (ga_v ad v) = true) (hh : h.set q (.inl (ci, fs.set j v)) = h2) (k : ga_W t mc ms kc ks M P X (pc + 3) lv st h2) : ga_W t mc ms kc ks M P X pc lv (v :: Vr q :: st) h := by
  intro p l e R s m args below meth c G tc A ad0 ad n0 H locs ls Q hC hP hl hol hos
  have hx := hC.1
  have hb := hC.2.1
  have hown := hC.2.2.2.2.1
  have hts := hC.2.2.2.2.2.1
  have hK := hC.2.2.2.2.2.2.1
  obtain ⟨hn0, hag, hlen, hoh, hPP, hPD, hPS⟩ := id hP
  subst hh
  obtain ⟨C, T, N, ty0, host, hc, hN, hin, hty, hnm, hlk, hfi, hpt, hfo⟩ := hF
  have hok : ga_okc h.length (.inl (ci, fs.set j v)) := fun w hw => by
    rcases List.mem_or_eq_of_mem_set hw with z | z
    · exact ga_hok hoh hq w z
    · rw [z]; exact hos.head
  have e9 : (Sum.inr (ci, (fs.map (ga_v ad)).set j (ga_v ad v)) : va_E) = ga_c tc ad (.inl (ci, fs.set j v)) := by
    show _ = Sum.inr (ci, (fs.set j v).map (ga_v ad))
    rw [List.map_set]
  · refine va_putF hx hb hts hin ty0 hty hnm hown hK hPP hPD hPS q (ga_w_at hq) hc j hN (hts _ (hfo rfl).2) (fun _ z => z) hfi (hC.2.2.2.2.2.2.2.2.2.1 hi2) (hfo rfl).1 hpt (hn ad) (hf ad) (by rw [List.length_map]; exact hj) hd (fun H1 locs1 q1 q2 q3 => ?_)
    rw [e9] at q1 q2
    exact k p l e R s m args below meth c G tc A ad0 ad n0 H1 locs1 ls Q hC (ga_pic_set hn0 hag hlen hoh hok q1 q2 q3) hl (by rw [List.length_set]; exact hol) (by rw [List.length_set]; exact hos.tail.tail)
theorem ga_iaload {q n : Nat} {i : Int} {f : Int → Int} (hd : decode (ga_b M) pc = .ok (.iaload, 1)) (hq : h[q]? = some (.inr (.inl (0, n, f)))) (h0 : 0 ≤ i) (h1 : i < n) (k : ga_W t mc ms kc ks M P X (pc + 1) lv (Vi (f i) :: st) h) : ga_W t mc ms kc ks M P X pc lv (Vi i :: Vr q :: st) h := by
  intro p l e R s m args below meth c G tc A ad0 ad n0 H locs ls Q hC hP hl hol hos
  have hx := hC.1
  have hb := hC.2.1
  have hown := hC.2.2.2.2.1
  have hts := hC.2.2.2.2.2.1
  have hK := hC.2.2.2.2.2.2.1
  obtain ⟨hn0, hag, hlen, hoh, hPP, hPD, hPS⟩ := id hP
  have hi9 : ga_inI i := hos.head
  have h9 := ga_hok hoh hq
  refine va_iald hx hb hK hPP q 0 (ga_w_at hq) rfl (ga_vpin hi9 h0 h1) hd ?_
  rw [ga_clamp hi9]
  rw [ga_cast h0]
  exact k p l e R s m args below meth c G tc A ad0 ad n0 H locs ls Q hC hP hl hol (ga_oks.cons (v := Vi (f i)) (h9 i) hos.tail.tail)
theorem ga_zaload {q n : Nat} {i : Int} {f : Int → Int} (hd : decode (ga_b M) pc = .ok (.baload, 1)) (hq : h[q]? = some (.inr (.inl (1, n, f)))) (h0 : 0 ≤ i) (h1 : i < n) (k : ga_W t mc ms kc ks M P X (pc + 1) lv (Vi (f i) :: st) h) : ga_W t mc ms kc ks M P X pc lv (Vi i :: Vr q :: st) h := by
  intro p l e R s m args below meth c G tc A ad0 ad n0 H locs ls Q hC hP hl hol hos
  have hx := hC.1
  have hb := hC.2.1
  have hown := hC.2.2.2.2.1
  have hts := hC.2.2.2.2.2.1
  have hK := hC.2.2.2.2.2.2.1
  obtain ⟨hn0, hag, hlen, hoh, hPP, hPD, hPS⟩ := id hP
  have hi9 : ga_inI i := hos.head
  have h9 := ga_hok hoh hq
  refine va_zald hx hb hK hPP q 1 (ga_w_at hq) rfl (ga_vpin hi9 h0 h1) hd ?_
  rw [ga_clamp hi9]
  rw [ga_cast h0]
  exact k p l e R s m args below meth c G tc A ad0 ad n0 H locs ls Q hC hP hl hol (ga_oks.cons (v := Vi (f i)) (h9 i) hos.tail.tail)
theorem ga_daload {q n : Nat} {i : Int} {f : Int → UInt64} (hd : decode (ga_b M) pc = .ok (.daload, 1)) (hq : h[q]? = some (.inr (.inr (.inl (n, f))))) (h0 : 0 ≤ i) (h1 : i < n) (k : ga_W t mc ms kc ks M P X (pc + 1) lv (Vd (f i) :: st) h) : ga_W t mc ms kc ks M P X pc lv (Vi i :: Vr q :: st) h := by
  intro p l e R s m args below meth c G tc A ad0 ad n0 H locs ls Q hC hP hl hol hos
  have hx := hC.1
  have hb := hC.2.1
  have hown := hC.2.2.2.2.1
  have hts := hC.2.2.2.2.2.1
  have hK := hC.2.2.2.2.2.2.1
  obtain ⟨hn0, hag, hlen, hoh, hPP, hPD, hPS⟩ := id hP
  have hi9 : ga_inI i := hos.head
  have h9 := ga_hok hoh hq
  refine va_dald hx hb hK hPP q 2 (ga_w_at hq) rfl (ga_vpin hi9 h0 h1) hd ?_
  rw [ga_clamp hi9]
  rw [ga_cast h0]
  exact k p l e R s m args below meth c G tc A ad0 ad n0 H locs ls Q hC hP hl hol (ga_oks.cons (v := Vd (f i)) (trivial) hos.tail.tail)
theorem ga_laload {q n : Nat} {i : Int} {f : Int → Int} (hd : decode (ga_b M) pc = .ok (.laload, 1)) (hq : h[q]? = some (.inr (.inr (.inr (n, f))))) (h0 : 0 ≤ i) (h1 : i < n) (k : ga_W t mc ms kc ks M P X (pc + 1) lv (Vl (f i) :: st) h) : ga_W t mc ms kc ks M P X pc lv (Vi i :: Vr q :: st) h := by
  intro p l e R s m args below meth c G tc A ad0 ad n0 H locs ls Q hC hP hl hol hos
  have hx := hC.1
  have hb := hC.2.1
  have hown := hC.2.2.2.2.1
  have hts := hC.2.2.2.2.2.1
  have hK := hC.2.2.2.2.2.2.1
  obtain ⟨hn0, hag, hlen, hoh, hPP, hPD, hPS⟩ := id hP
  have hi9 : ga_inI i := hos.head
  have h9 := ga_hok hoh hq
  refine va_lald hx hb hK hPP q 3 (ga_w_at hq) rfl (ga_vpin hi9 h0 h1) hd ?_
  rw [ga_clamp hi9]
  rw [ga_cast h0]
  exact k p l e R s m args below meth c G tc A ad0 ad n0 H locs ls Q hC hP hl hol (ga_oks.cons (v := Vl (f i)) (h9 i) hos.tail.tail)
theorem ga_iastore {q n : Nat} {i : Int} {x : Int} {f : Int → Int} {h2 : ga_H} (hd : decode (ga_b M) pc = .ok (.iastore, 1)) (hq : h[q]? = some (.inr (.inl (0, n, f)))) (h0 : 0 ≤ i) (h1 : i < n) (hh : h.set q (.inr (.inl (0, n, ga_up f i x))) = h2) (k : ga_W t mc ms kc ks M P X (pc + 1) lv st h2) : ga_W t mc ms kc ks M P X pc lv (Vi x :: Vi i :: Vr q :: st) h := by
  intro p l e R s m args below meth c G tc A ad0 ad n0 H locs ls Q hC hP hl hol hos
  have hx := hC.1
  have hb := hC.2.1
  have hown := hC.2.2.2.2.1
  have hts := hC.2.2.2.2.2.1
  have hK := hC.2.2.2.2.2.2.1
  obtain ⟨hn0, hag, hlen, hoh, hPP, hPD, hPS⟩ := id hP
  subst hh
  have hi9 : ga_inI i := hos.tail.head
  have hx9 := hos.head
  have h9 := ga_hok hoh hq
  have hok : ga_okc h.length (.inr (.inl (0, n, ga_up f i x))) := fun j => by
    show ga_inI (ga_up f i x j)
    unfold ga_up
    split
    · exact hx9
    · exact h9 j
  refine va_iast hx hb hK hPP hPD hPS q 0 (ga_w_at hq) rfl (ga_vpin hi9 h0 h1) hd (fun H1 locs1 q1 q2 q3 => ?_)
  rw [ga_clamp hi9, ga_upI h0] at q1 q2
  exact k p l e R s m args below meth c G tc A ad0 ad n0 H1 locs1 ls Q hC (ga_pic_set (c := .inr (.inl (0, n, ga_up f i x))) hn0 hag hlen hoh hok q1 q2 q3) hl (by rw [List.length_set]; exact hol) (by rw [List.length_set]; exact hos.tail.tail.tail)
theorem ga_zastore {q n : Nat} {i : Int} {x : Int} {f : Int → Int} {h2 : ga_H} (hd : decode (ga_b M) pc = .ok (.bastore, 1)) (hq : h[q]? = some (.inr (.inl (1, n, f)))) (h0 : 0 ≤ i) (h1 : i < n) (hb01 : x = 0 ∨ x = 1) (hh : h.set q (.inr (.inl (1, n, ga_up f i x))) = h2) (k : ga_W t mc ms kc ks M P X (pc + 1) lv st h2) : ga_W t mc ms kc ks M P X pc lv (Vi x :: Vi i :: Vr q :: st) h := by
  intro p l e R s m args below meth c G tc A ad0 ad n0 H locs ls Q hC hP hl hol hos
  have hx := hC.1
  have hb := hC.2.1
  have hown := hC.2.2.2.2.1
  have hts := hC.2.2.2.2.2.1
  have hK := hC.2.2.2.2.2.2.1
  obtain ⟨hn0, hag, hlen, hoh, hPP, hPD, hPS⟩ := id hP
  subst hh
  have hi9 : ga_inI i := hos.tail.head
  have hx9 := hos.head
  have h9 := ga_hok hoh hq
  have hok : ga_okc h.length (.inr (.inl (1, n, ga_up f i x))) := fun j => by
    show ga_inI (ga_up f i x j)
    unfold ga_up
    split
    · exact hx9
    · exact h9 j
  refine va_zast hx hb hK hPP hPD hPS q 1 (ga_w_at hq) rfl (ga_vpin hi9 h0 h1) hd (fun H1 locs1 q1 q2 q3 => ?_)
  rw [ga_clamp hi9, show vp_nar .boolean (Int32.ofInt x) = Int32.ofInt x from by rcases hb01 with z | z <;> subst z <;> rfl, ga_upI h0] at q1 q2
  exact k p l e R s m args below meth c G tc A ad0 ad n0 H1 locs1 ls Q hC (ga_pic_set (c := .inr (.inl (1, n, ga_up f i x))) hn0 hag hlen hoh hok q1 q2 q3) hl (by rw [List.length_set]; exact hol) (by rw [List.length_set]; exact hos.tail.tail.tail)
theorem ga_dastore {q n : Nat} {i : Int} {x : UInt64} {f : Int → UInt64} {h2 : ga_H} (hd : decode (ga_b M) pc = .ok (.dastore, 1)) (hq : h[q]? = some (.inr (.inr (.inl (n, f))))) (h0 : 0 ≤ i) (h1 : i < n) (hh : h.set q (.inr (.inr (.inl (n, ga_up f i x)))) = h2) (k : ga_W t mc ms kc ks M P X (pc + 1) lv st h2) : ga_W t mc ms kc ks M P X pc lv (Vd x :: Vi i :: Vr q :: st) h := by
  intro p l e R s m args below meth c G tc A ad0 ad n0 H locs ls Q hC hP hl hol hos
  have hx := hC.1
  have hb := hC.2.1
  have hown := hC.2.2.2.2.1
  have hts := hC.2.2.2.2.2.1
  have hK := hC.2.2.2.2.2.2.1
  obtain ⟨hn0, hag, hlen, hoh, hPP, hPD, hPS⟩ := id hP
  subst hh
  have hi9 : ga_inI i := hos.tail.head
  have hx9 := hos.head
  have h9 := ga_hok hoh hq
  have hok : ga_okc h.length (.inr (.inr (.inl (n, ga_up f i x)))) := trivial
  refine va_dast hx hb hK hPP hPD hPS q 2 (ga_w_at hq) rfl (ga_vpin hi9 h0 h1) hd (fun H1 locs1 q1 q2 q3 => ?_)
  rw [ga_clamp hi9, ga_upD h0] at q1 q2
  exact k p l e R s m args below meth c G tc A ad0 ad n0 H1 locs1 ls Q hC (ga_pic_set (c := .inr (.inr (.inl (n, ga_up f i x)))) hn0 hag hlen hoh hok q1 q2 q3) hl (by rw [List.length_set]; exact hol) (by rw [List.length_set]; exact hos.tail.tail.tail)
theorem ga_lastore {q n : Nat} {i : Int} {x : Int} {f : Int → Int} {h2 : ga_H} (hd : decode (ga_b M) pc = .ok (.lastore, 1)) (hq : h[q]? = some (.inr (.inr (.inr (n, f))))) (h0 : 0 ≤ i) (h1 : i < n) (hh : h.set q (.inr (.inr (.inr (n, ga_up f i x)))) = h2) (k : ga_W t mc ms kc ks M P X (pc + 1) lv st h2) : ga_W t mc ms kc ks M P X pc lv (Vl x :: Vi i :: Vr q :: st) h := by
  intro p l e R s m args below meth c G tc A ad0 ad n0 H locs ls Q hC hP hl hol hos
  have hx := hC.1
  have hb := hC.2.1
  have hown := hC.2.2.2.2.1
  have hts := hC.2.2.2.2.2.1
  have hK := hC.2.2.2.2.2.2.1
  obtain ⟨hn0, hag, hlen, hoh, hPP, hPD, hPS⟩ := id hP
  subst hh
  have hi9 : ga_inI i := hos.tail.head
  have hx9 := hos.head
  have h9 := ga_hok hoh hq
  have hok : ga_okc h.length (.inr (.inr (.inr (n, ga_up f i x)))) := fun j => by
    show ga_inL (ga_up f i x j)
    unfold ga_up
    split
    · exact hx9
    · exact h9 j
  refine va_last hx hb hK hPP hPD hPS q 3 (ga_w_at hq) rfl (ga_vpin hi9 h0 h1) hd (fun H1 locs1 q1 q2 q3 => ?_)
  rw [ga_clamp hi9, ga_upL h0] at q1 q2
  exact k p l e R s m args below meth c G tc A ad0 ad n0 H1 locs1 ls Q hC (ga_pic_set (c := .inr (.inr (.inr (n, ga_up f i x)))) hn0 hag hlen hoh hok q1 q2 q3) hl (by rw [List.length_set]; exact hol) (by rw [List.length_set]; exact hos.tail.tail.tail)
theorem ga_alen {q n tcc : Nat} {f : Int → Int} (hd : decode (ga_b M) pc = .ok (.arraylength, 1)) (hq : h[q]? = some (.inr (.inl (tcc, n, f)))) (ht : tcc = 0) (hn : ga_inI (n : Int)) (k : ga_W t mc ms kc ks M P X (pc + 1) lv (Vi (n : Int) :: st) h) : ga_W t mc ms kc ks M P X pc lv (Vr q :: st) h := by
  intro p l e R s m args below meth c G tc A ad0 ad n0 H locs ls Q hC hP hl hol hos
  have hx := hC.1
  have hb := hC.2.1
  have hown := hC.2.2.2.2.1
  have hts := hC.2.2.2.2.2.1
  have hK := hC.2.2.2.2.2.2.1
  obtain ⟨hn0, hag, hlen, hoh, hPP, hPD, hPS⟩ := id hP
  subst ht
  refine va_alen hx hb hK hPP q 0 (ga_w_at hq) rfl (v := Int32.ofInt (n : Int)) (by rfl) hd ?_
  exact k p l e R s m args below meth c G tc A ad0 ad n0 H locs ls Q hC hP hl hol (ga_oks.cons (v := Vi (n : Int)) hn hos.tail)
theorem ga_sld {L : Nat} {xs : Nat → Int32} {i : Int} (hsc : ga_sc M = some (L, xs)) (hd : decode (ga_b M) pc = .ok (.iaload, 1)) (h0 : 0 ≤ i) (h1 : i < L) (k : ga_W t mc ms kc ks M P X (pc + 1) lv (Vi (xs i.toNat).toInt :: st) h) : ga_W t mc ms kc ks M P X pc lv (Vi i :: Vr ga_scr :: st) h := by
  intro p l e R s m args below meth c G tc A ad0 ad n0 H locs ls Q hC hP hl hol hos
  have hx := hC.1
  have hb := hC.2.1
  have hown := hC.2.2.2.2.1
  have hts := hC.2.2.2.2.2.1
  have hK := hC.2.2.2.2.2.2.1
  obtain ⟨hn0, hag, hlen, hoh, hPP, hPD, hPS⟩ := id hP
  have hi9 : ga_inI i := hos.head
  obtain ⟨hX1, hX2, hX3⟩ := hC.2.2.2.2.2.2.2.2.2.2.2.2.2.2.1 L xs hsc
  have e9 : ad ga_scr = ad0 ga_scr := hag ga_scr (Or.inr rfl)
  show W p l e R s m args below meth c H locs kc ks Q (F0 m pc ls (.int (Int32.ofInt i) :: .ref (ad ga_scr) :: st.map (ga_v ad)))
  rw [e9]
  refine va_sld hx hb hX1 hX2 hX3 hPS (ga_vpin hi9 h0 h1) hd ?_
  rw [ga_clamp hi9, ← ga_ofI (xs i.toNat)]
  exact k p l e R s m args below meth c G tc A ad0 ad n0 H locs ls Q hC hP hl hol (ga_oks.cons (v := Vi (xs i.toNat).toInt) (ga_inI32 _) hos.tail.tail)
theorem ga_slen {L : Nat} {xs : Nat → Int32} (hsc : ga_sc M = some (L, xs)) (hd : decode (ga_b M) pc = .ok (.arraylength, 1)) (hL : ga_inI (L : Int)) (k : ga_W t mc ms kc ks M P X (pc + 1) lv (Vi (L : Int) :: st) h) : ga_W t mc ms kc ks M P X pc lv (Vr ga_scr :: st) h := by
  intro p l e R s m args below meth c G tc A ad0 ad n0 H locs ls Q hC hP hl hol hos
  have hx := hC.1
  have hb := hC.2.1
  have hown := hC.2.2.2.2.1
  have hts := hC.2.2.2.2.2.1
  have hK := hC.2.2.2.2.2.2.1
  obtain ⟨hn0, hag, hlen, hoh, hPP, hPD, hPS⟩ := id hP
  obtain ⟨hX1, hX2, hX3⟩ := hC.2.2.2.2.2.2.2.2.2.2.2.2.2.2.1 L xs hsc
  have e9 : ad ga_scr = ad0 ga_scr := hag ga_scr (Or.inr rfl)
  show W p l e R s m args below meth c H locs kc ks Q (F0 m pc ls (.ref (ad ga_scr) :: st.map (ga_v ad)))
  rw [e9]
  refine va_slen hx hb hX1 hX2 hX3 hPS hd ?_
  exact k p l e R s m args below meth c G tc A ad0 ad n0 H locs ls Q hC hP hl hol (ga_oks.cons (v := Vi (L : Int)) hL hos.tail)
/-- a class's site for new: its number, its fields' first values -/
def ga_NS (own : String) (idx ci N : Nat) (fs : List ga_V) : Prop :=
  ∃ (C : String) (T : u_T) (ty0 : Nat → FieldType), vwCl[ci]? = some (C, T, N) ∧ (∀ w ∈ u_ws C T N, w ∈ ga_big) ∧ (∀ j, j < N → parseFieldDescriptor (T j).2.2.1 = some (ty0 j)) ∧ Cond.classLink own idx C ∈ ga_big ∧ Cond.instantiable C N ∈ ga_big ∧ Cond.initialized C ∈ ga_big ∧ (∀ v ∈ fs, ga_ok 0 v) ∧ ∀ ad, ∀ j, j < N → defaultValue (ty0 j) = vp_V (fs.map (ga_v ad)) j
theorem ga_new {idx ci N : Nat} {fs : List ga_V} {h2 : ga_H} (hN : ga_NS (ga_y M).cls idx ci N fs) (hd : decode (ga_b M) pc = .ok (.new idx, 3)) (hkc : kc + 1 ≤ mc) (hks : ks + N ≤ ms) (hlen2 : h.length + 1 ≤ 900000) (hh : h ++ [.inl (ci, fs)] = h2) (k : ga_W t mc ms (kc + 1) (ks + N) M P X (pc + 3) lv (Vr h.length :: st) h2) : ga_W t mc ms kc ks M P X pc lv st h := by
  intro p l e R s m args below meth c G tc A ad0 ad n0 H locs ls Q hC hP hl hol hos
  have hx := hC.1
  have hb := hC.2.1
  have hown := hC.2.2.2.2.1
  have hts := hC.2.2.2.2.2.1
  have hK := hC.2.2.2.2.2.2.1
  obtain ⟨hn0, hag, hlen, hoh, hPP, hPD, hPS⟩ := id hP
  subst hh
  obtain ⟨C, T, ty0, hc, hin, hty, hw1, hw2, hw3, hfo, hfs⟩ := hN
  have hRR := hC.2.2.2.2.2.2.2.2.2.2.2.2.2.2.2.1
  refine va_new (fs := fs.map (ga_v ad)) hx hb hts hin ty0 hty hown (hts _ hw1) (hts _ hw2) (hts _ hw3) hK hPP hPD hPS hC.2.2.2.2.2.2.2.1 hc (hfs ad) (by rw [hRR.1]; exact hkc) (by rw [hRR.2.1]; exact hks) hd (fun q H1 q1 q2 q3 => ?_)
  have hag2 : ga_ag h.length ad (ga_ad ad h.length q) := ga_ad_ag hlen
  have e9 : (Sum.inr (ci, fs.map (ga_v ad)) : va_E) = ga_c tc (ga_ad ad h.length q) (.inl (ci, fs)) := by
    show _ = Sum.inr (ci, fs.map _)
    rw [ga_map_ag hag2 (fun v hv => (hfo v hv).mono (Nat.zero_le _))]
  rw [e9] at q1 q2
  have hp2 := ga_pic_push (c := .inl (ci, fs)) hn0 hag hlen2 hoh (fun v hv => (hfo v hv).mono (Nat.zero_le _)) q1 q2 q3
  have hlq : (h ++ [Sum.inl (ci, fs)] : ga_H).length = h.length + 1 := by rw [List.length_append]; rfl
  have k2 := k p l e R s m args below meth c G tc A ad0 (ga_ad ad h.length q) n0 H1 locs ls Q hC hp2 (ga_l_ag hl hag2 hol) (by rw [hlq]; exact hol.mono (Nat.le_succ _)) (by rw [hlq]; exact ga_oks.cons (Or.inl (Nat.lt_succ_self _)) (hos.mono (Nat.le_succ _)))
  rw [List.map_cons, show ga_v (ga_ad ad h.length q) (Vr h.length) = .ref q from by show Value.ref _ = _; unfold ga_ad; rw [if_pos rfl], ga_map_ag hag2 hos] at k2
  exact k2
theorem ga_newa_int {z : Int} {n : Nat} {h2 : ga_H} (harr : Cond.arrayClass .int ∈ ga_big) (hd : decode (ga_b M) pc = .ok (.newarray .int, 2)) (hz : z = (n : Int)) (hnb : n ≤ 60000) (hkc : kc + 1 ≤ mc) (hks : ks + n ≤ ms) (hlen2 : h.length + 1 ≤ 900000) (hh : h ++ [.inr (.inl (0, n, fun _ => 0))] = h2) (k : ga_W t mc ms (kc + 1) (ks + n) M P X (pc + 2) lv (Vr h.length :: st) h2) : ga_W t mc ms kc ks M P X pc lv (Vi z :: st) h := by
  intro p l e R s m args below meth c G tc A ad0 ad n0 H locs ls Q hC hP hl hol hos
  have hx := hC.1
  have hb := hC.2.1
  have hown := hC.2.2.2.2.1
  have hts := hC.2.2.2.2.2.1
  have hK := hC.2.2.2.2.2.2.1
  obtain ⟨hn0, hag, hlen, hoh, hPP, hPD, hPS⟩ := id hP
  subst hh
  subst hz
  have hi9 : ga_inI (n : Int) := hos.head
  have hRR := hC.2.2.2.2.2.2.2.2.2.2.2.2.2.2.2.1
  refine va_newa (atype := .int) (ty := .int) (N' := n) (a0 := (n, .inl (fun _ => Int32.ofInt 0))) hx hb (hts _ harr) rfl hK hPP hPD hPS hC.2.2.2.2.2.2.2.1 (fun _ => rfl) (fun q => by rw [ga_lt0 hi9] at q; omega) (by rw [ga_clamp hi9]; rfl) (by show n * 4 ≤ 536870912; omega) (by rw [hRR.1]; exact hkc) (by rw [hRR.2.1]; exact hks) hd (fun q cA H1 q0 q1 q2 q3 => ?_)
  have r1 : va_RA s cA .int := (q0.2 4 (cA, .int) (by show (ga_tys tc ++ [(cA, _)])[4]? = _; rfl)).2
  have r2 : va_RA s (tc 0) .int := (hK.2 0 (tc 0, .int) rfl).2
  have ecA : cA = tc 0 := Option.some.inj (r1.symm.trans r2)
  subst ecA
  have hag2 : ga_ag h.length ad (ga_ad ad h.length q) := ga_ad_ag hlen
  have hp2 := ga_pic_push (c := .inr (.inl (0, n, fun _ => 0))) hn0 hag hlen2 hoh (fun _ => ga_in0) q1 q2 q3
  have hlq : (h ++ [.inr (.inl (0, n, fun _ => 0))] : ga_H).length = h.length + 1 := by rw [List.length_append]; rfl
  have k2 := k p l e R s m args below meth c G tc A ad0 (ga_ad ad h.length q) n0 H1 locs ls Q hC hp2 (ga_l_ag hl hag2 hol) (by rw [hlq]; exact hol.mono (Nat.le_succ _)) (by rw [hlq]; exact ga_oks.cons (Or.inl (Nat.lt_succ_self _)) (hos.tail.mono (Nat.le_succ _)))
  rw [List.map_cons, show ga_v (ga_ad ad h.length q) (Vr h.length) = .ref q from by show Value.ref _ = _; unfold ga_ad; rw [if_pos rfl], ga_map_ag hag2 hos.tail] at k2
  exact k2
theorem ga_newa_bool {z : Int} {n : Nat} {h2 : ga_H} (harr : Cond.arrayClass .boolean ∈ ga_big) (hd : decode (ga_b M) pc = .ok (.newarray .boolean, 2)) (hz : z = (n : Int)) (hnb : n ≤ 60000) (hkc : kc + 1 ≤ mc) (hks : ks + n ≤ ms) (hlen2 : h.length + 1 ≤ 900000) (hh : h ++ [.inr (.inl (1, n, fun _ => 0))] = h2) (k : ga_W t mc ms (kc + 1) (ks + n) M P X (pc + 2) lv (Vr h.length :: st) h2) : ga_W t mc ms kc ks M P X pc lv (Vi z :: st) h := by
  intro p l e R s m args below meth c G tc A ad0 ad n0 H locs ls Q hC hP hl hol hos
  have hx := hC.1
  have hb := hC.2.1
  have hown := hC.2.2.2.2.1
  have hts := hC.2.2.2.2.2.1
  have hK := hC.2.2.2.2.2.2.1
  obtain ⟨hn0, hag, hlen, hoh, hPP, hPD, hPS⟩ := id hP
  subst hh
  subst hz
  have hi9 : ga_inI (n : Int) := hos.head
  have hRR := hC.2.2.2.2.2.2.2.2.2.2.2.2.2.2.2.1
  refine va_newa (atype := .boolean) (ty := .boolean) (N' := n) (a0 := (n, .inl (fun _ => Int32.ofInt 0))) hx hb (hts _ harr) rfl hK hPP hPD hPS hC.2.2.2.2.2.2.2.1 (fun _ => rfl) (fun q => by rw [ga_lt0 hi9] at q; omega) (by rw [ga_clamp hi9]; rfl) (by show n * 1 ≤ 536870912; omega) (by rw [hRR.1]; exact hkc) (by rw [hRR.2.1]; exact hks) hd (fun q cA H1 q0 q1 q2 q3 => ?_)
  have r1 : va_RA s cA .boolean := (q0.2 4 (cA, .boolean) (by show (ga_tys tc ++ [(cA, _)])[4]? = _; rfl)).2
  have r2 : va_RA s (tc 1) .boolean := (hK.2 1 (tc 1, .boolean) rfl).2
  have ecA : cA = tc 1 := Option.some.inj (r1.symm.trans r2)
  subst ecA
  have hag2 : ga_ag h.length ad (ga_ad ad h.length q) := ga_ad_ag hlen
  have hp2 := ga_pic_push (c := .inr (.inl (1, n, fun _ => 0))) hn0 hag hlen2 hoh (fun _ => ga_in0) q1 q2 q3
  have hlq : (h ++ [.inr (.inl (1, n, fun _ => 0))] : ga_H).length = h.length + 1 := by rw [List.length_append]; rfl
  have k2 := k p l e R s m args below meth c G tc A ad0 (ga_ad ad h.length q) n0 H1 locs ls Q hC hp2 (ga_l_ag hl hag2 hol) (by rw [hlq]; exact hol.mono (Nat.le_succ _)) (by rw [hlq]; exact ga_oks.cons (Or.inl (Nat.lt_succ_self _)) (hos.tail.mono (Nat.le_succ _)))
  rw [List.map_cons, show ga_v (ga_ad ad h.length q) (Vr h.length) = .ref q from by show Value.ref _ = _; unfold ga_ad; rw [if_pos rfl], ga_map_ag hag2 hos.tail] at k2
  exact k2
theorem ga_newa_double {z : Int} {n : Nat} {h2 : ga_H} (harr : Cond.arrayClass .double ∈ ga_big) (hd : decode (ga_b M) pc = .ok (.newarray .double, 2)) (hz : z = (n : Int)) (hnb : n ≤ 60000) (hkc : kc + 1 ≤ mc) (hks : ks + n ≤ ms) (hlen2 : h.length + 1 ≤ 900000) (hh : h ++ [.inr (.inr (.inl (n, fun _ => FP.dconst0)))] = h2) (k : ga_W t mc ms (kc + 1) (ks + n) M P X (pc + 2) lv (Vr h.length :: st) h2) : ga_W t mc ms kc ks M P X pc lv (Vi z :: st) h := by
  intro p l e R s m args below meth c G tc A ad0 ad n0 H locs ls Q hC hP hl hol hos
  have hx := hC.1
  have hb := hC.2.1
  have hown := hC.2.2.2.2.1
  have hts := hC.2.2.2.2.2.1
  have hK := hC.2.2.2.2.2.2.1
  obtain ⟨hn0, hag, hlen, hoh, hPP, hPD, hPS⟩ := id hP
  subst hh
  subst hz
  have hi9 : ga_inI (n : Int) := hos.head
  have hRR := hC.2.2.2.2.2.2.2.2.2.2.2.2.2.2.2.1
  refine va_newa (atype := .double) (ty := .double) (N' := n) (a0 := (n, .inr (.inr (.inr (.inl (fun _ => FP.dconst0)))))) hx hb (hts _ harr) rfl hK hPP hPD hPS hC.2.2.2.2.2.2.2.1 (fun _ => rfl) (fun q => by rw [ga_lt0 hi9] at q; omega) (by rw [ga_clamp hi9]; rfl) (by show n * 8 ≤ 536870912; omega) (by rw [hRR.1]; exact hkc) (by rw [hRR.2.1]; exact hks) hd (fun q cA H1 q0 q1 q2 q3 => ?_)
  have r1 : va_RA s cA .double := (q0.2 4 (cA, .double) (by show (ga_tys tc ++ [(cA, _)])[4]? = _; rfl)).2
  have r2 : va_RA s (tc 2) .double := (hK.2 2 (tc 2, .double) rfl).2
  have ecA : cA = tc 2 := Option.some.inj (r1.symm.trans r2)
  subst ecA
  have hag2 : ga_ag h.length ad (ga_ad ad h.length q) := ga_ad_ag hlen
  have hp2 := ga_pic_push (c := .inr (.inr (.inl (n, fun _ => FP.dconst0)))) hn0 hag hlen2 hoh (trivial) q1 q2 q3
  have hlq : (h ++ [.inr (.inr (.inl (n, fun _ => FP.dconst0)))] : ga_H).length = h.length + 1 := by rw [List.length_append]; rfl
  have k2 := k p l e R s m args below meth c G tc A ad0 (ga_ad ad h.length q) n0 H1 locs ls Q hC hp2 (ga_l_ag hl hag2 hol) (by rw [hlq]; exact hol.mono (Nat.le_succ _)) (by rw [hlq]; exact ga_oks.cons (Or.inl (Nat.lt_succ_self _)) (hos.tail.mono (Nat.le_succ _)))
  rw [List.map_cons, show ga_v (ga_ad ad h.length q) (Vr h.length) = .ref q from by show Value.ref _ = _; unfold ga_ad; rw [if_pos rfl], ga_map_ag hag2 hos.tail] at k2
  exact k2
theorem ga_newa_long {z : Int} {n : Nat} {h2 : ga_H} (harr : Cond.arrayClass .long ∈ ga_big) (hd : decode (ga_b M) pc = .ok (.newarray .long, 2)) (hz : z = (n : Int)) (hnb : n ≤ 60000) (hkc : kc + 1 ≤ mc) (hks : ks + n ≤ ms) (hlen2 : h.length + 1 ≤ 900000) (hh : h ++ [.inr (.inr (.inr (n, fun _ => 0)))] = h2) (k : ga_W t mc ms (kc + 1) (ks + n) M P X (pc + 2) lv (Vr h.length :: st) h2) : ga_W t mc ms kc ks M P X pc lv (Vi z :: st) h := by
  intro p l e R s m args below meth c G tc A ad0 ad n0 H locs ls Q hC hP hl hol hos
  have hx := hC.1
  have hb := hC.2.1
  have hown := hC.2.2.2.2.1
  have hts := hC.2.2.2.2.2.1
  have hK := hC.2.2.2.2.2.2.1
  obtain ⟨hn0, hag, hlen, hoh, hPP, hPD, hPS⟩ := id hP
  subst hh
  subst hz
  have hi9 : ga_inI (n : Int) := hos.head
  have hRR := hC.2.2.2.2.2.2.2.2.2.2.2.2.2.2.2.1
  refine va_newa (atype := .long) (ty := .long) (N' := n) (a0 := (n, .inr (.inl (fun _ => Int64.ofInt 0)))) hx hb (hts _ harr) rfl hK hPP hPD hPS hC.2.2.2.2.2.2.2.1 (fun _ => rfl) (fun q => by rw [ga_lt0 hi9] at q; omega) (by rw [ga_clamp hi9]; rfl) (by show n * 8 ≤ 536870912; omega) (by rw [hRR.1]; exact hkc) (by rw [hRR.2.1]; exact hks) hd (fun q cA H1 q0 q1 q2 q3 => ?_)
  have r1 : va_RA s cA .long := (q0.2 4 (cA, .long) (by show (ga_tys tc ++ [(cA, _)])[4]? = _; rfl)).2
  have r2 : va_RA s (tc 3) .long := (hK.2 3 (tc 3, .long) rfl).2
  have ecA : cA = tc 3 := Option.some.inj (r1.symm.trans r2)
  subst ecA
  have hag2 : ga_ag h.length ad (ga_ad ad h.length q) := ga_ad_ag hlen
  have hp2 := ga_pic_push (c := .inr (.inr (.inr (n, fun _ => 0)))) hn0 hag hlen2 hoh (fun _ => ga_inL0) q1 q2 q3
  have hlq : (h ++ [.inr (.inr (.inr (n, fun _ => 0)))] : ga_H).length = h.length + 1 := by rw [List.length_append]; rfl
  have k2 := k p l e R s m args below meth c G tc A ad0 (ga_ad ad h.length q) n0 H1 locs ls Q hC hp2 (ga_l_ag hl hag2 hol) (by rw [hlq]; exact hol.mono (Nat.le_succ _)) (by rw [hlq]; exact ga_oks.cons (Or.inl (Nat.lt_succ_self _)) (hos.tail.mono (Nat.le_succ _)))
  rw [List.map_cons, show ga_v (ga_ad ad h.length q) (Vr h.length) = .ref q from by show Value.ref _ = _; unfold ga_ad; rw [if_pos rfl], ga_map_ag hag2 hos.tail] at k2
  exact k2
theorem ga_ret {v : Option ga_V} (hP1 : P v h) (hst : st = v.toList) (hkc : kc ≤ mc) (hks : ks ≤ ms) (hR : ga_R M pc v) : ga_W t mc ms kc ks M P X pc lv st h := by
  intro p l e R s m args below meth c G tc A ad0 ad n0 H locs ls Q hC hP hl hol hos
  have hx := hC.1
  have hb := hC.2.1
  have hown := hC.2.2.2.2.1
  have hts := hC.2.2.2.2.2.1
  have hK := hC.2.2.2.2.2.2.1
  obtain ⟨hn0, hag, hlen, hoh, hPP, hPD, hPS⟩ := id hP
  subst hst
  exact hC.2.2.2.2.2.2.2.2.2.2.2.2.2.2.2.2.1 v h ad H locs kc ks pc ls hP1 hP (fun x hx => hos x (by rw [hx]; exact List.mem_cons_self)) hkc hks hR
theorem ga_wf (k : ga_okh h → ga_oks h.length st → ga_okl h.length lv → ga_W t mc ms kc ks M P X pc lv st h) : ga_W t mc ms kc ks M P X pc lv st h := by
  intro p l e R s m args below meth c G tc A ad0 ad n0 H locs ls Q hC hP hl hol hos
  have hx := hC.1
  have hb := hC.2.1
  have hown := hC.2.2.2.2.1
  have hts := hC.2.2.2.2.2.1
  have hK := hC.2.2.2.2.2.2.1
  obtain ⟨hn0, hag, hlen, hoh, hPP, hPD, hPS⟩ := id hP
  exact k hoh hos hol p l e R s m args below meth c G tc A ad0 ad n0 H locs ls Q hC hP hl hol hos
end GaRules2
