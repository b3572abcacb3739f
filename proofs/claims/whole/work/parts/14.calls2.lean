-- calls
/-- a method as the tables have it: its code, its class, its number of parameters -/
def ga_MF (M : ga_M0) (n : Nat) : Prop := ga_head M ∈ ga_big ∧ Cond.initialized (ga_y M).cls ∈ ga_big ∧ ((ga_y M).cls ≠ "java/lang/invoke/MethodHandle" ∧ (ga_y M).cls ≠ "java/lang/invoke/VarHandle") ∧ (parseMethodDescriptor (ga_y M).desc).map (fun d => d.parameters.length) = some n ∧ ga_n M ≤ 16
def ga_MV (M : ga_M0) : Prop := Cond.instanceMethod (ga_y M) ∈ ga_big ∧ Cond.selects (ga_y M).cls (ga_y M) (ga_y M) ∈ ga_big
def ga_MS (M : ga_M0) : Prop := Cond.static (ga_y M) ∈ ga_big
def ga_MI (M : ga_M0) : Prop := (ga_y M).name = "<init>" ∧ Cond.instanceMethod (ga_y M) ∈ ga_big ∧ ga_r M = none
def ga_cats (st : List ga_V) : Nat := (st.map (fun v => if ga_c2 v then 2 else 1)).sum
theorem ga_cats_eq (ad : Nat → Nat) (st : List ga_V) : ((st.map (ga_v ad)).map fun v => v.category).sum = ga_cats st := by
  unfold ga_cats
  rw [List.map_map]
  congr 1
  exact List.map_congr_left fun v _ => ga_cat ad v
theorem ga_ws_warm {args : Array Value} {s : State} {M : ga_M0} {n : Nat} (hF : ga_MF M n) (hts : ∀ w ∈ ga_big, w.before args s = true) : ∀ w ∈ ga_ws M, ∀ (a' : Array Value) (U : State), s.WarmedH U.vm → w.before a' U = true := by
  intro w hw
  rcases List.mem_cons.mp hw with z | z
  · rw [z]; exact ga_warm hts _ hF.1
  · exact ga_warm hts w z
section GaCalls
variable {p : Program} {l : Launch} {e : Env} {R : Room} {s : State} {m : MethodId} {args : Array Value} {below : List Frame} {meth : Method} {c : Code} {G : va_G} {tc : Nat → ClassId} {A : Nat → Prop} {ad0 ad : Nat → Nat} {n0 : Nat} {H : Heap} {locs : List Loc} {ls : Array Slot} {Q : State → Prop}
variable {t mc ms kc ks : Nat} {M : ga_M0} {P : ga_Po} {X : ga_Px} {pc : Nat} {lv : List (Option ga_V)} {st st2 : List ga_V} {h : ga_H}
variable {t' mc' ms' n : Nat} {M' : ga_M0} {as : List ga_V} {P' : ga_Po} {X' : ga_Px}
theorem ga_callB (hF : ga_MF M' n) (hhh : ga_hh M' = []) (hts : ∀ w ∈ ga_big, w.before args s = true) {own : String} {idx : Nat} (hl : Cond.methodLink own idx (ga_y M') ∈ ga_big) (ht : t' + 1 ≤ R.frames) (ht2 : 35 * (t' + 1) ≤ R.locals) :
    CallB R s args own idx (ga_y M') (ga_b M') (ga_n M') (ga_r M') (ga_ws M') (ga_rm t' mc' ms') mc' ms' n := by
  have hh : ga_head M' = Cond.code (ga_y M') (ga_b M') (ga_n M') (ga_r M') := by unfold ga_head; rw [hhh]
  have hw := ga_ws_warm hF hts
  obtain ⟨h1, h2, h3, h4, h5⟩ := hF
  rw [hh] at h1
  refine ⟨rfl, rfl, ht, ?_, hw, ?_, hts _ h1, hts _ h2, h3, fun sig hs => ?_, hts _ hl⟩
  · show 8 + (ga_n M' + 11) + 35 * t' ≤ R.locals
    omega
  · unfold ga_ws; rw [hh]; exact List.mem_cons_self
  · rw [hs] at h4
    exact (Option.some.inj h4).symm
theorem ga_free (hPD : va_D A (ga_w tc ad h)) (hPS : va_S A s.heap H locs) (hA : ∀ q, s.heap.size ≤ q → A q) : ∀ q, va_A (ga_w tc ad h) H.size q → A q := by
  rintro q (⟨k, e9, hk⟩ | hq)
  · exact hPD.2 k (q, e9) hk
  · exact hA q (Nat.le_trans hPS.1 hq)
theorem ga_pre (hC : ga_C p l e R s m args below meth c G tc A ad0 n0 Q t mc ms M P X) (hP : ga_Pic G tc A s.heap ad0 ad n0 h H locs) : ∀ U : State, U.heap = H → s.WarmedH U.vm → va_Pc (as.map (ga_v ad)) (ga_Pc G tc ad H.size h) (as.map (ga_v ad)).toArray U := by
  intro U hU hW
  have hK := hC.2.2.2.2.2.2.1
  have hA := hC.2.2.2.2.2.2.2.1
  have hZ := hC.2.2.2.2.2.2.2.2.2.2.2.2.1
  have hStr := hC.2.2.2.2.2.2.2.2.2.2.2.2.2.1
  obtain ⟨hn0, hag, hlen, hoh, hPP, hPD, hPS⟩ := hP
  refine ⟨rfl, by rw [hU], hlen, hoh, by rw [hU]; exact hPP, va_K.moved hW.alike hK, hPD.weaken (fun _ _ _ _ => trivial), ⟨?_, ?_⟩, ⟨fun w hw => ?_, fun w hw => va_Nc.moved hW.alike (hStr.2 w hw)⟩⟩
  · have := vx_Zq.moved hW.alike ((hZ.1.kept hPS.2.1).narrow (ga_free hPD hPS hA))
    rw [hU]; exact this
  · have := vx_Zq.moved hW.alike ((hZ.2.kept hPS.2.1).narrow (ga_free hPD hPS hA))
    rw [hU]; exact this
  · obtain ⟨sa, hs⟩ := hStr.1 w hw
    exact ⟨sa, vk_R.warm hW hs⟩
/-- behind a call -/
theorem ga_after (hC : ga_C p l e R s m args below meth c G tc A ad0 n0 Q t mc ms M P X) (hP : ga_Pic G tc A s.heap ad0 ad n0 h H locs) (hl : lv_has ls (ga_n M) (ga_l ad 0 lv)) (hol : ga_okl h.length lv) (hos2 : ga_oks h.length st2) {st0 : List Value} {a : Array Value}
    (hr : va_Run p l e R s m args below meth c H locs kc ks mc' ms' (F0 m pc ls st0) (st2.map (ga_v ad)) (ga_Qc G tc (va_A (ga_w tc ad h) H.size) ad h.length P' a) (va_A (ga_w tc ad h) H.size))
    (k : ∀ v h2, P' v h2 → ga_W t mc ms (kc + mc') (ks + ms') M P X (pc + 3) lv (v.toList ++ st2) h2) : W p l e R s m args below meth c H locs kc ks Q (F0 m pc ls st0) := by
  obtain ⟨hn0, hag, hlen, hoh, hPP, hPD, hPS⟩ := hP
  have hFc := ga_free hPD hPS hC.2.2.2.2.2.2.2.1
  intro T hT XX
  obtain ⟨v0, st₀, t9, T', L, h0, X9, hL, e1, e2, ⟨⟨v, h2, ad2, hv, hP9, hn2, hag2, hlen2, hoh2, hok2, hPP2, hPD2⟩, hF⟩, hgo⟩ := hr T hT XX
  have hv0 : v0 = v.map (ga_v ad2) := by injection hv
  subst hv0
  obtain ⟨k1, k2, k3⟩ := vx_keep h0 e1 hPS (fun q _ z => hFc q z) hFc hL hF
  have key := k v h2 hP9 p l e R s m args below meth c G tc A ad0 ad2 n0 T'.heap (locs ++ L) ls Q hC ⟨Nat.le_trans hn0 hn2, fun i hi => by rw [← hag i hi]; exact hag2 i (hi.elim (fun z => Or.inl (by omega)) Or.inr), hlen2, hoh2, by rw [e1]; exact hPP2, hPD2.weaken (fun _ q _ z => hFc q.1 z), k3⟩
    (ga_l_ag hl hag2 hol) (hol.mono hn2) (fun w hw => by
      rcases List.mem_append.mp hw with z | z
      · cases v with
        | none => cases z
        | some x => rw [List.mem_singleton.mp z]; exact hok2 x rfl
      · exact (hos2 w z).mono hn2)
  obtain ⟨t2, a1, b1⟩ := key T' rfl X9
  refine ⟨t2, hgo t2 ?_, b1⟩
  have ew : (v.map (ga_v ad2)).toList ++ st2.map (ga_v ad) = (v.toList ++ st2).map (ga_v ad2) := by
    rw [List.map_append, ga_map_ag hag2 hos2]
    cases v <;> rfl
  show Steps _ _ _ (T'.setTop { F0 m pc ls st0 with pc := pc + 3, stack := (v.map (ga_v ad2)).toList ++ st2.map (ga_v ad) }) t2
  rw [ew]
  exact a1
theorem ga_Xno {tc : Nat → ClassId} {A1 : Nat → Prop} {ad1 : Nat → Nat} {n1 : Nat} : ∀ E st t, ¬ ga_Xc G tc A1 ad1 n1 ga_nox E st t := by
  rintro E st t ⟨⟨h, ad, hX, -⟩, -⟩
  exact hX
theorem ga_oks.app {N : Nat} {st st2 : List ga_V} (h : ga_oks N (st ++ st2)) : ga_oks N st2 := fun v hv => h v (List.mem_append_right _ hv)
/-- a call of an instance method that returns -/
theorem ga_callV {q ci idx : Nat} {fs : List ga_V} (hM : ga_Mt t' mc' ms' M' (Vr q :: as) h P' ga_nox) (hF : ga_MF M' n) (hhh : ga_hh M' = []) (hV : ga_MV M') (hlk : Cond.methodLink (ga_y M).cls idx (ga_y M') ∈ ga_big) (hd : decode (ga_b M) pc = .ok (.invokevirtual idx, 3)) (hst : st = as.reverse ++ Vr q :: st2) (hln : as.length = n) (ht : t' + 1 ≤ t) (hq : h[q]? = some (.inl (ci, fs))) (hci : (vwCl[ci]?).map (fun z => z.1) = some (ga_y M').cls) (hcat : ga_cats st2 ≤ 8) (hkc : kc + mc' ≤ mc) (hks : ks + ms' ≤ ms)
    (k : ∀ v h2, P' v h2 → ga_W t mc ms (kc + mc') (ks + ms') M P X (pc + 3) lv (v.toList ++ st2) h2) : ga_W t mc ms kc ks M P X pc lv st h := by
  intro p l e R s m args below meth c G tc A ad0 ad n0 H locs ls Q hC hP hl hol hos
  subst hst
  have hRR := hC.2.2.2.2.2.2.2.2.2.2.2.2.2.2.2.1
  have hts := hC.2.2.2.2.2.1
  have hK := hC.2.2.2.2.2.2.1
  obtain ⟨hn0, hag, hlen, hoh, hPP, hPD, hPS⟩ := id hP
  obtain ⟨r9, hr9, hr8⟩ := Option.map_eq_some_iff.mp hci
  have hrecv := va_recv hK hPP hr9 (ga_w_at hq)
  rw [hr8] at hrecv
  have hM9 := ga_met (hM l G tc ad H.size hC.2.2.2.2.2.2.2.2.2.2.1 (fun v hv => by
    rcases List.mem_cons.mp hv with z | z
    · rw [z]; exact hos _ (List.mem_append_right _ List.mem_cons_self)
    · exact hos v (List.mem_append_left _ (List.mem_reverse.mpr z)))) ga_Xno
  refine ga_after hC hP hl hol (st2 := st2) (hos.app.tail) (va_runV (As := as.map (ga_v ad)) (b := ad q) (C := (ga_y M').cls) ⟨hC.1, hC.2.1, hC.2.2.1, hC.2.2.2.2.1, hts⟩ hM9 ⟨ga_callB hF hhh hts hlk (by omega) (by omega), hts _ hV.1, hts _ hV.2⟩ ⟨ga_Pc.blind, hrecv, fun U hU hW => ga_pre hC hP (as := Vr q :: as) U hU hW⟩ rfl (by rw [List.length_map]; exact hln) hl.1 ?_ (lv_room (by rw [ga_cats_eq]; exact hcat)) hd ⟨by rw [hRR.1]; exact hkc, by rw [hRR.2.1]; exact hks⟩) k
  show (as.reverse ++ Vr q :: st2).map (ga_v ad) = _
  rw [List.map_append, List.map_reverse]
  rfl
/-- a call of a static method that returns -/
theorem ga_callS {idx : Nat} (hM : ga_Mt t' mc' ms' M' as h P' ga_nox) (hF : ga_MF M' n) (hhh : ga_hh M' = []) (hV : ga_MS M') (hlk : Cond.methodLink (ga_y M).cls idx (ga_y M') ∈ ga_big) (hd : decode (ga_b M) pc = .ok (.invokestatic idx, 3)) (hst : st = as.reverse ++ st2) (hln : as.length = n) (ht : t' + 1 ≤ t) (hcat : ga_cats st2 ≤ 8) (hkc : kc + mc' ≤ mc) (hks : ks + ms' ≤ ms)
    (k : ∀ v h2, P' v h2 → ga_W t mc ms (kc + mc') (ks + ms') M P X (pc + 3) lv (v.toList ++ st2) h2) : ga_W t mc ms kc ks M P X pc lv st h := by
  intro p l e R s m args below meth c G tc A ad0 ad n0 H locs ls Q hC hP hl hol hos
  subst hst
  have hRR := hC.2.2.2.2.2.2.2.2.2.2.2.2.2.2.2.1
  have hts := hC.2.2.2.2.2.1
  obtain ⟨hn0, hag, hlen, hoh, hPP, hPD, hPS⟩ := id hP
  have hM9 := ga_met (hM l G tc ad H.size hC.2.2.2.2.2.2.2.2.2.2.1 (fun v hv => hos v (List.mem_append_left _ (List.mem_reverse.mpr hv)))) ga_Xno
  refine ga_after hC hP hl hol (st2 := st2) hos.app (va_runS (As := as.map (ga_v ad)) ⟨hC.1, hC.2.1, hC.2.2.1, hC.2.2.2.2.1, hts⟩ hM9 ⟨ga_callB hF hhh hts hlk (by omega) (by omega), hts _ hV⟩ ⟨ga_Pc.blind, fun U hU hW => ga_pre hC hP (as := as) U hU hW⟩ rfl (by rw [List.length_map]; exact hln) hl.1 ?_ (lv_room (by rw [ga_cats_eq]; exact hcat)) hd ⟨by rw [hRR.1]; exact hkc, by rw [hRR.2.1]; exact hks⟩) k
  show (as.reverse ++ st2).map (ga_v ad) = _
  rw [List.map_append, List.map_reverse]
/-- a constructor's call -/
theorem ga_callI {q idx : Nat} {host : String} (hM : ga_Mt t' mc' ms' M' (Vr q :: as) h P' ga_nox) (hF : ga_MF M' n) (hhh : ga_hh M' = []) (hV : ga_MI M') (hlk : Cond.methodLink (ga_y M).cls idx (ga_y M') ∈ ga_big ∨ Cond.methodLinkNest (ga_y M).cls idx (ga_y M') host ∈ ga_big) (hd : decode (ga_b M) pc = .ok (.invokespecial idx, 3)) (hst : st = as.reverse ++ Vr q :: st2) (hln : as.length = n) (ht : t' + 1 ≤ t) (hcat : ga_cats st2 ≤ 8) (hkc : kc + mc' ≤ mc) (hks : ks + ms' ≤ ms)
    (k : ∀ v h2, P' v h2 → ga_W t mc ms (kc + mc') (ks + ms') M P X (pc + 3) lv (v.toList ++ st2) h2) : ga_W t mc ms kc ks M P X pc lv st h := by
  intro p l e R s m args below meth c G tc A ad0 ad n0 H locs ls Q hC hP hl hol hos
  subst hst
  have hRR := hC.2.2.2.2.2.2.2.2.2.2.2.2.2.2.2.1
  have hts := hC.2.2.2.2.2.1
  obtain ⟨hn0, hag, hlen, hoh, hPP, hPD, hPS⟩ := id hP
  have hM9 := ga_met (hM l G tc ad H.size hC.2.2.2.2.2.2.2.2.2.2.1 (fun v hv => by
    rcases List.mem_cons.mp hv with z | z
    · rw [z]; exact hos _ (List.mem_append_right _ List.mem_cons_self)
    · exact hos v (List.mem_append_left _ (List.mem_reverse.mpr z)))) ga_Xno
  have est : (as.reverse ++ Vr q :: st2).map (ga_v ad) = (as.map (ga_v ad)).reverse ++ .ref (ad q) :: st2.map (ga_v ad) := by
    rw [List.map_append, List.map_reverse]
    rfl
  rcases hlk with hlk | hlk
  · have hB := ga_callB (mc' := mc') (ms' := ms') (R := R) (t' := t') hF hhh hts hlk (by omega) (by omega)
    rw [hV.2.2] at hB
    exact ga_after hC hP hl hol (st2 := st2) (hos.app.tail) (va_runI (As := as.map (ga_v ad)) (b := ad q) ⟨hC.1, hC.2.1, hC.2.2.1, hC.2.2.2.2.1, hts⟩ hM9 ⟨hB, hV.1, hts _ hV.2.1⟩ ⟨ga_Pc.blind, fun U hU hW => ga_pre hC hP (as := Vr q :: as) U hU hW⟩ rfl (by rw [List.length_map]; exact hln) hl.1 est (lv_room (by rw [ga_cats_eq]; exact hcat)) hd ⟨by rw [hRR.1]; exact hkc, by rw [hRR.2.1]; exact hks⟩) k
  · have hh : ga_head M' = Cond.code (ga_y M') (ga_b M') (ga_n M') (ga_r M') := by unfold ga_head; rw [hhh]
    have hw := ga_ws_warm hF hts
    obtain ⟨h1, h2, h3, h4, h5⟩ := id hF
    rw [hh] at h1
    have hB : va_CN R s args (ga_y M).cls idx (ga_y M') host (ga_b M') (ga_n M') (ga_r M') (ga_ws M') (ga_rm t' mc' ms') mc' ms' n := by
      refine ⟨⟨rfl, rfl, by show t' + 1 ≤ R.frames; omega, ?_, hw, ?_⟩, hts _ h1, hts _ h2, h3, fun sig hs => ?_, hts _ hlk⟩
      · show 8 + (ga_n M' + 11) + 35 * t' ≤ R.locals
        omega
      · unfold ga_ws; rw [hh]; exact List.mem_cons_self
      · rw [hs] at h4
        exact (Option.some.inj h4).symm
    rw [hV.2.2] at hB
    exact ga_after hC hP hl hol (st2 := st2) (hos.app.tail) (va_runIN (As := as.map (ga_v ad)) (b := ad q) ⟨hC.1, hC.2.1, hC.2.2.1, hC.2.2.2.2.1, hts⟩ hM9 ⟨hB, hV.1, hts _ hV.2.1⟩ ⟨ga_Pc.blind, fun U hU hW => ga_pre hC hP (as := Vr q :: as) U hU hW⟩ rfl (by rw [List.length_map]; exact hln) hl.1 est (lv_room (by rw [ga_cats_eq]; exact hcat)) hd ⟨by rw [hRR.1]; exact hkc, by rw [hRR.2.1]; exact hks⟩) k
/-- Object's constructor -/
theorem ga_objInit {q idx : Nat} (hw1 : Cond.methodLink (ga_y M).cls idx Lib.objectInit ∈ ga_big) (hw2 : Cond.instanceMethod Lib.objectInit ∈ ga_big) (hw3 : Cond.code Lib.objectInit ⟨#[0xb1]⟩ 1 none ∈ ga_big) (hd : decode (ga_b M) pc = .ok (.invokespecial idx, 3)) (ht : 1 ≤ t) (hcat : ga_cats st ≤ 8) (k : ga_W t mc ms kc ks M P X (pc + 3) lv st h) : ga_W t mc ms kc ks M P X pc lv (Vr q :: st) h := by
  intro p l e R s m args below meth c G tc A ad0 ad n0 H locs ls Q hC hP hl hol hos
  have hRR := hC.2.2.2.2.2.2.2.2.2.2.2.2.2.2.2.1
  have hts := hC.2.2.2.2.2.1
  refine W.objInit hC.1 hC.2.1 hC.2.2.2.2.1 (hts _ hw1) (hts _ hw2) (hts _ hw3) rfl (by rw [hC.2.2.1]; exact hl.1) (a := ad q) (rest := st.map (ga_v ad)) rfl hd (by omega) ?_ ?_
  · have := lv_room (m := m) (pc := pc) (ls := ls) (rest := []) (st := st.map (ga_v ad)) (by rw [ga_cats_eq]; exact hcat)
    have e9 : 2 * (F0 m pc ls ((Vr q :: st).map (ga_v ad))).monitorRoom + ((st.map (ga_v ad)).map fun v => v.category).sum ≤ 8 := this
    omega
  · exact k p l e R s m args below meth c G tc A ad0 ad n0 H locs ls Q hC hP hl hol hos.tail
end GaCalls
