-- throws
def ga_TF (own : String) (ik ic : Nat) (E : String) (names : List String) : Prop :=
  Bundle.fit E = true ∧ (∀ n ∈ names, Bundle.fit n = true) ∧ Cond.classLink own ik E ∈ ga_big ∧ Cond.initialized E ∈ ga_big ∧ (∀ w ∈ vx_atS own ic E names, w ∈ ga_big) ∧ (∀ w ∈ Cond.classLink own ik E :: Cond.initialized E :: vx_atS own ic E names, vx_ot w = true) ∧ names.length = 2
/-- a throw's handler: which row of the table takes it -/
def ga_Hd (M : ga_M0) (pc : Nat) (E : String) (hp : Nat) : Prop :=
  ∃ (pre : List ExceptionTableEntry) (x : ExceptionTableEntry) (suf : List ExceptionTableEntry), tableOf (ga_hh M) = pre ++ x :: suf ∧ (∀ z ∈ pre, covers z pc = false ∨ (z.catchType ≠ 0 ∧ ∃ nm : String, Cond.classLink (ga_y M).cls z.catchType nm ∈ ga_big ∧ (E, nm) ∈ ga_ncp)) ∧ covers x pc = true ∧ x.catchType ≠ 0 ∧ Cond.classLink (ga_y M).cls x.catchType E ∈ ga_big ∧ Cond.castable E E ∈ ga_big ∧ x.handlerPc = hp
section GaThrows
variable {p : Program} {l : Launch} {e : Env} {R : Room} {s : State} {m : MethodId} {args : Array Value} {below : List Frame} {meth : Method} {c : Code} {G : va_G} {tc : Nat → ClassId} {A : Nat → Prop} {ad0 ad : Nat → Nat} {n0 : Nat} {H : Heap} {locs : List Loc} {ls : Array Slot} {Q : State → Prop}
variable {t mc ms kc ks : Nat} {M : ga_M0} {P : ga_Po} {X : ga_Px} {pc : Nat} {lv : List (Option ga_V)} {st st2 : List ga_V} {h : ga_H}
variable {t' mc' ms' n : Nat} {M' : ga_M0} {as : List ga_V} {P' : ga_Po} {X' : ga_Px}
theorem ga_throw {ik is ic : Nat} {E text : String} {names : List String} (hT : ga_TF (ga_y M).cls ik ic E names) (hstr : ((ga_y M).cls, is, text) ∈ ga_strs) (hhh : ga_hh M = [])
    (d0 : decode (ga_b M) pc = .ok (.new ik, 3)) (d3 : decode (ga_b M) (pc + 3) = .ok (.dup, 1)) (d4 : decode (ga_b M) (pc + 4) = .ok (.ldc is, 2)) (d6 : decode (ga_b M) (pc + 6) = .ok (.invokespecial ic, 3)) (d9 : decode (ga_b M) (pc + 9) = .ok (.athrow, 1))
    (ht : 6 ≤ t) (hcat : ga_cats st ≤ 8) (hkc : kc + 1 ≤ mc) (hks : ks + 6 ≤ ms) (hX : X E h) : ga_W t mc ms kc ks M P X pc lv st h := by
  intro p l e R s m args below meth c G tc A ad0 ad n0 H locs ls Q hC hP hl hol hos
  have hRR := hC.2.2.2.2.2.2.2.2.2.2.2.2.2.2.2.1
  have hts := hC.2.2.2.2.2.1
  have hlk := hC.2.2.2.2.2.2.2.2.1
  have hst := hC.2.2.2.2.2.2.2.2.2.2.1
  have htb := hC.2.2.2.2.2.2.2.2.2.2.2.1
  have hZ := hC.2.2.2.2.2.2.2.2.2.2.2.2.1
  have hStr := hC.2.2.2.2.2.2.2.2.2.2.2.2.2.1
  have hE := hC.2.2.2.2.2.2.2.2.2.2.2.2.2.2.2.2
  obtain ⟨hn0, hag, hlen, hoh, hPP, hPD, hPS⟩ := id hP
  obtain ⟨f1, f2, f3, f4, f5, f6, f7⟩ := hT
  obtain ⟨sa, hsa⟩ := hStr.1 _ hstr
  rcases hE.2 with hno | ⟨Qc, XC, hQ, hXC⟩
  · exact absurd hX (hno E h)
  · rw [hQ]
    refine vx_throwS (A := A) (names := names) hC.1 hC.2.1 hst hC.2.2.2.2.1 f1 f2 (hts _ f3) (hts _ f4) hsa (fun w hw => hts _ (f5 w hw)) f6 hZ.1 hZ.2 hPS (by rw [hC.2.2.1]; exact hl.1) d0 d3 d4 d6 d9 (by rw [htb, hhh]; intro x hx; cases hx) (by rw [f7]; omega) (by rw [f7, ga_cats_eq]; omega) (by rw [hRR.1]; exact hkc) (by rw [hRR.2.1]; exact hks) hlk (fun t9 hal hsz hke => ?_) hPS.2.2 hkc hks
    refine hXC E h ad t9.heap [] t9 hX ⟨hn0, hag, hlen, hoh, hPP.kept (fun k q hk => hke q.1 (hPP k q hk).lt), hPD, ⟨Nat.le_trans hPS.1 hsz, fun q h1 h2 => (hke q (Nat.lt_of_lt_of_le h1 hPS.1)).trans (hPS.2.1 q h1 h2), fun _ hz => by cases hz⟩⟩ rfl hal
/-- behind a call that may throw: both ends -/
theorem ga_afterX (hC : ga_C p l e R s m args below meth c G tc A ad0 n0 Q t mc ms M P X) (hP : ga_Pic G tc A s.heap ad0 ad n0 h H locs) (hl : lv_has ls (ga_n M) (ga_l ad 0 lv)) (hol : ga_okl h.length lv) (hos2 : ga_oks h.length st2) {st0 : List Value} {a : Array Value}
    (hr : vx_Run p l e R s m args below meth c H locs kc ks mc' ms' (F0 m pc ls st0) (st2.map (ga_v ad)) (ga_Qc G tc (va_A (ga_w tc ad h) H.size) ad h.length P' a) (ga_Xc G tc (va_A (ga_w tc ad h) H.size) ad h.length X') (va_A (ga_w tc ad h) H.size))
    (kx : ∀ E h2 ad2 H2 locs2 q ce, X' E h2 → ga_Pic G tc A s.heap ad0 ad2 n0 h2 H2 locs2 → ga_ag h.length ad ad2 → h.length ≤ h2.length → H2[q]? = some ce → ce.vm = .none → s.vm.findClass E = some ce.cls → vx_W p l e R s m args below meth c H2 locs2 (kc + mc') (ks + ms') Q (F0 m pc ls (st2.map (ga_v ad))) q)
    (k : ∀ v h2, P' v h2 → ga_W t mc ms (kc + mc') (ks + ms') M P X (pc + 3) lv (v.toList ++ st2) h2) : W p l e R s m args below meth c H locs kc ks Q (F0 m pc ls st0) := by
  obtain ⟨hn0, hag, hlen, hoh, hPP, hPD, hPS⟩ := hP
  have hFc := ga_free hPD hPS hC.2.2.2.2.2.2.2.1
  intro T hT XX
  rcases hr T hT XX with ⟨v0, st₀, t9, T', L, h0, X9, hL, e1, e2, ⟨⟨v, h2, ad2, hv, hP9, hn2, hag2, hlen2, hoh2, hok2, hPP2, hPD2⟩, hF⟩, hgo⟩ | ⟨q, st₀, t9, T', L, E, ce, h0, X9, hL, e1, e2, ⟨⟨h2, ad2, hX9, hn2, hag2, hlen2, hoh2, hPP2, hPD2⟩, hF⟩, hce, hcv, hcl, hgo⟩
  · have hv0 : v0 = v.map (ga_v ad2) := by injection hv
    subst hv0
    obtain ⟨k1, k2, k3⟩ := vx_keep h0 e1 hPS (fun q _ z => hFc q z) hFc hL hF
    have key := k v h2 hP9 p l e R s m args below meth c G tc A ad0 ad2 n0 T'.heap (locs ++ L) ls Q hC ⟨Nat.le_trans hn0 hn2, fun i hi => by rw [← hag i hi]; exact hag2 i (hi.elim (fun z => Or.inl (by omega)) Or.inr), hlen2, hoh2, by rw [e1]; exact hPP2, hPD2.weaken (fun _ q _ z => hFc q.1 z), k3⟩
      (ga_l_ag hl hag2 hol) (hol.mono hn2) (fun w hw => by
        rcases List.mem_append.mp hw with z | z
        · cases v with
          | none => cases z
          | some x => rw [List.mem_singleton.mp z]; exact hok2 x rfl
        · exact (hos2 w z).mono hn2)
    obtain ⟨t2, a1, b1⟩ := key T' rfl X9
    refine ⟨t2, hgo t2 ?_, b1⟩
    have ew : (v.map (ga_v ad2)).toList ++ st2.map (ga_v ad) = (v.toList ++ st2).map (ga_v ad2) := by
      rw [List.map_append, ga_map_ag hag2 hos2]
      cases v <;> rfl
    show Steps _ _ _ (T'.setTop { F0 m pc ls st0 with pc := pc + 3, stack := (v.map (ga_v ad2)).toList ++ st2.map (ga_v ad) }) t2
    rw [ew]
    exact a1
  · obtain ⟨k1, k2, k3⟩ := vx_keep h0 e1 hPS (fun q _ z => hFc q z) hFc hL hF
    have key := kx E h2 ad2 T'.heap (locs ++ L) q ce hX9 ⟨Nat.le_trans hn0 hn2, fun i hi => by rw [← hag i hi]; exact hag2 i (hi.elim (fun z => Or.inl (by omega)) Or.inr), hlen2, hoh2, by rw [e1]; exact hPP2, hPD2.weaken (fun _ q _ z => hFc q.1 z), k3⟩ hag2 hn2 (by rw [e1]; exact hce) hcv hcl
    obtain ⟨t2, a1, b1⟩ := key T' rfl X9
    exact ⟨t2, hgo.trans a1, b1⟩
theorem ga_recv {q ci : Nat} {fs : List ga_V} {C : String} (hK : va_K G vwCl (ga_tys tc) s) (hPP : va_P G vwCl (ga_w tc ad h) H) (hq : h[q]? = some (.inl (ci, fs))) (hci : (vwCl[ci]?).map (fun z => z.1) = some C) : ∃ cell : Cell, H[ad q]? = some cell ∧ cell.vm.isStatics = false ∧ s.vm.findClass C = some cell.cls := by
  obtain ⟨r9, hr9, hr8⟩ := Option.map_eq_some_iff.mp hci
  have hrecv := va_recv hK hPP hr9 (ga_w_at hq)
  rw [hr8] at hrecv
  exact hrecv
/-- a call of an instance method that returns or throws; what it throws goes on to the caller -/
theorem ga_callVX {q ci idx : Nat} {fs : List ga_V} (hM : ga_Mt t' mc' ms' M' (Vr q :: as) h P' X') (hF : ga_MF M' n) (hhh : ga_hh M' = []) (hV : ga_MV M') (hlk : Cond.methodLink (ga_y M).cls idx (ga_y M') ∈ ga_big) (hd : decode (ga_b M) pc = .ok (.invokevirtual idx, 3)) (hst : st = as.reverse ++ Vr q :: st2) (hln : as.length = n) (ht : t' + 1 ≤ t) (hq : h[q]? = some (.inl (ci, fs))) (hci : (vwCl[ci]?).map (fun z => z.1) = some (ga_y M').cls) (hcat : ga_cats st2 ≤ 8) (hkc : kc + mc' ≤ mc) (hks : ks + ms' ≤ ms) (hh0 : ga_hh M = [])
    (kx : ∀ E h2, X' E h2 → X E h2)
    (k : ∀ v h2, P' v h2 → ga_W t mc ms (kc + mc') (ks + ms') M P X (pc + 3) lv (v.toList ++ st2) h2) : ga_W t mc ms kc ks M P X pc lv st h := by
  intro p l e R s m args below meth c G tc A ad0 ad n0 H locs ls Q hC hP hl hol hos
  subst hst
  have hRR := hC.2.2.2.2.2.2.2.2.2.2.2.2.2.2.2.1
  have hts := hC.2.2.2.2.2.1
  have hK := hC.2.2.2.2.2.2.1
  have hlk9 := hC.2.2.2.2.2.2.2.2.1
  have htb := hC.2.2.2.2.2.2.2.2.2.2.2.1
  have hE := hC.2.2.2.2.2.2.2.2.2.2.2.2.2.2.2.2
  obtain ⟨hn0, hag, hlen, hoh, hPP, hPD, hPS⟩ := id hP
  have hM9 := hM l G tc ad H.size hC.2.2.2.2.2.2.2.2.2.2.1 (fun v hv => by
    rcases List.mem_cons.mp hv with z | z
    · rw [z]; exact hos _ (List.mem_append_right _ List.mem_cons_self)
    · exact hos v (List.mem_append_left _ (List.mem_reverse.mpr z)))
  refine ga_afterX hC hP hl hol (st2 := st2) (hos.app.tail) (vx_runV (As := as.map (ga_v ad)) (b := ad q) (C := (ga_y M').cls) ⟨hC.1, hC.2.1, hC.2.2.1, hC.2.2.2.2.1, hts⟩ hM9 ⟨ga_callB hF hhh hts hlk (by omega) (by omega), hts _ hV.1, hts _ hV.2⟩ ⟨ga_Pc.blind, ga_recv hK hPP hq hci, fun U hU hW => ga_pre hC hP (as := Vr q :: as) U hU hW⟩ rfl (by rw [List.length_map]; exact hln) hl.1 ?_ (lv_room (by rw [ga_cats_eq]; exact hcat)) hd ⟨by rw [hRR.1]; exact hkc, by rw [hRR.2.1]; exact hks⟩) ?_ k
  · show (as.reverse ++ Vr q :: st2).map (ga_v ad) = _
    rw [List.map_append, List.map_reverse]
    rfl
  · intro E h2 ad2 H2 locs2 q9 ce hX9 hP2 _ _ hce hcv hcl
    rcases hE.2 with hno | ⟨Qc, XC, hQ, hXC⟩
    · exact absurd (kx E h2 hX9) (hno E h2)
    · rw [hQ]
      exact vx_out (by rw [htb, hh0]; intro x hx; cases hx) hlk9 hce hcv hcl (fun t9 ht9 hal => hXC E h2 ad2 H2 locs2 t9 (kx E h2 hX9) hP2 ht9 hal) hP2.2.2.2.2.2.2.2.2 hkc hks
/-- .. what it throws is caught here, and laid into a local that is not read -/
theorem ga_callVH {q ci idx : Nat} {fs : List ga_V} (hM : ga_Mt t' mc' ms' M' (Vr q :: as) h P' X') (hF : ga_MF M' n) (hhh : ga_hh M' = []) (hV : ga_MV M') (hlk : Cond.methodLink (ga_y M).cls idx (ga_y M') ∈ ga_big) (hd : decode (ga_b M) pc = .ok (.invokevirtual idx, 3)) (hst : st = as.reverse ++ Vr q :: st2) (hln : as.length = n) (ht : t' + 1 ≤ t) (hq : h[q]? = some (.inl (ci, fs))) (hci : (vwCl[ci]?).map (fun z => z.1) = some (ga_y M').cls) (hcat : ga_cats st2 ≤ 8) (hkc : kc + mc' ≤ mc) (hks : ks + ms' ≤ ms)
    (kx : ∀ E h2, X' E h2 → ∃ (hp j len : Nat), ga_Hd M pc E hp ∧ ((len = 2 ∧ decode (ga_b M) hp = .ok (.astore j, 2)) ∨ (len = 1 ∧ ∃ j4 : Fin 4, (j4 : Nat) = j ∧ decode (ga_b M) hp = .ok (.astore_n j4, 1))) ∧ j < ga_n M ∧ ga_pc2 lv j = false ∧ ga_W t mc ms (kc + mc') (ks + ms') M P X (hp + len) (lv.set j none) [] h2)
    (k : ∀ v h2, P' v h2 → ga_W t mc ms (kc + mc') (ks + ms') M P X (pc + 3) lv (v.toList ++ st2) h2) : ga_W t mc ms kc ks M P X pc lv st h := by
  intro p l e R s m args below meth c G tc A ad0 ad n0 H locs ls Q hC hP hl hol hos
  subst hst
  have hRR := hC.2.2.2.2.2.2.2.2.2.2.2.2.2.2.2.1
  have hts := hC.2.2.2.2.2.1
  have hK := hC.2.2.2.2.2.2.1
  have htb := hC.2.2.2.2.2.2.2.2.2.2.2.1
  have hStr := hC.2.2.2.2.2.2.2.2.2.2.2.2.2.1
  obtain ⟨hn0, hag, hlen, hoh, hPP, hPD, hPS⟩ := id hP
  have hM9 := hM l G tc ad H.size hC.2.2.2.2.2.2.2.2.2.2.1 (fun v hv => by
    rcases List.mem_cons.mp hv with z | z
    · rw [z]; exact hos _ (List.mem_append_right _ List.mem_cons_self)
    · exact hos v (List.mem_append_left _ (List.mem_reverse.mpr z)))
  refine ga_afterX hC hP hl hol (st2 := st2) (hos.app.tail) (vx_runV (As := as.map (ga_v ad)) (b := ad q) (C := (ga_y M').cls) ⟨hC.1, hC.2.1, hC.2.2.1, hC.2.2.2.2.1, hts⟩ hM9 ⟨ga_callB hF hhh hts hlk (by omega) (by omega), hts _ hV.1, hts _ hV.2⟩ ⟨ga_Pc.blind, ga_recv hK hPP hq hci, fun U hU hW => ga_pre hC hP (as := Vr q :: as) U hU hW⟩ rfl (by rw [List.length_map]; exact hln) hl.1 ?_ (lv_room (by rw [ga_cats_eq]; exact hcat)) hd ⟨by rw [hRR.1]; exact hkc, by rw [hRR.2.1]; exact hks⟩) ?_ k
  · show (as.reverse ++ Vr q :: st2).map (ga_v ad) = _
    rw [List.map_append, List.map_reverse]
    rfl
  · intro E h2 ad2 H2 locs2 q9 ce hX9 hP2 hag2 hn2 hce hcv hcl
    obtain ⟨hp, j, len, ⟨pre, x, suf, g1, g2, g3, g4, g5, g6, g7⟩, hst9, hj, hpc2, hk9⟩ := kx E h2 hX9
    refine vx_catch hC.2.2.2.2.1 pre x suf (htb.trans g1) (fun z hz => ?_) g3 g4 (hts _ g5) (hts _ g6) hce hcv hcl ?_
    · rcases g2 z hz with q1 | ⟨q1, nm, q2, q3⟩
      · exact Or.inl q1
      · exact Or.inr ⟨q1, nm, hts _ q2, hStr.2 _ q3⟩
    · rw [g7]
      have hl2 := ga_l_ag hl hag2 hol
      have fin : ∀ ls' : Array Slot, lv_has ls' (ga_n M) ((j, Value.ref q9) :: (ga_l ad2 0 lv).filter (fun q => !(q.1 == j) && !(q.1 + 1 == j && q.2.category == 2))) → lv_has ls' (ga_n M) (ga_l ad2 0 (lv.set j none)) := by
        intro ls' hls
        refine ⟨hls.1, hls.2.1, fun w hw => ?_⟩
        obtain ⟨k9, v9, hk8, rfl⟩ := ga_l_mem.mp hw
        rw [Nat.zero_add]
        by_cases hkj : j = k9
        · subst hkj
          rw [List.getElem?_set] at hk8
          simp only [if_true] at hk8
          split at hk8 <;> cases hk8
        · rw [List.getElem?_set_ne hkj] at hk8
          refine hls.2.2 (k9, ga_v ad2 v9) (List.mem_cons_of_mem _ (List.mem_filter.mpr ⟨ga_l_mem.mpr ⟨k9, v9, hk8, by rw [Nat.zero_add]⟩, ?_⟩))
          have h1 : (k9 == j) = false := by simp; omega
          simp only [h1, Bool.not_false, Bool.true_and, Bool.not_eq_true', Bool.and_eq_false_iff]
          by_cases h2 : k9 + 1 = j
          · right
            subst h2
            rw [ga_cat]
            simp only [ga_pc2, hk8] at hpc2
            rw [hpc2]
            rfl
          · left
            simp; omega
      rcases hst9 with ⟨rfl, hd9⟩ | ⟨rfl, j4, hj4, hd9⟩
      · exact lv_astore hC.1 hC.2.1 hd9 hl2 hj rfl (fun ls' hls => hk9 p l e R s m args below meth c G tc A ad0 ad2 n0 H2 locs2 ls' Q hC hP2 (fin ls' hls) (ga_okl_clr (hol.mono hn2)) (fun v hv => by cases hv))
      · exact lv_astore_n hC.1 hC.2.1 hd9 hj4 hl2 hj rfl (fun ls' hls => hk9 p l e R s m args below meth c G tc A ad0 ad2 n0 H2 locs2 ls' Q hC hP2 (fin ls' hls) (ga_okl_clr (hol.mono hn2)) (fun v hv => by cases hv))
/-- a call of a static method with a table of its own -/
theorem ga_callSW {idx : Nat} (hM : ga_Mt t' mc' ms' M' as h P' ga_nox) (hF : ga_MF M' n) (hh : ga_head M' = Cond.codeWith (ga_y M') (ga_b M') (ga_n M') (ga_r M') (ga_hh M')) (hV : ga_MS M') (hlk : Cond.methodLink (ga_y M).cls idx (ga_y M') ∈ ga_big) (hd : decode (ga_b M) pc = .ok (.invokestatic idx, 3)) (hst : st = as.reverse ++ st2) (hln : as.length = n) (ht : t' + 1 ≤ t) (hcat : ga_cats st2 ≤ 8) (hkc : kc + mc' ≤ mc) (hks : ks + ms' ≤ ms)
    (k : ∀ v h2, P' v h2 → ga_W t mc ms (kc + mc') (ks + ms') M P X (pc + 3) lv (v.toList ++ st2) h2) : ga_W t mc ms kc ks M P X pc lv st h := by
  intro p l e R s m args below meth c G tc A ad0 ad n0 H locs ls Q hC hP hl hol hos
  subst hst
  have hRR := hC.2.2.2.2.2.2.2.2.2.2.2.2.2.2.2.1
  have hts := hC.2.2.2.2.2.1
  obtain ⟨hn0, hag, hlen, hoh, hPP, hPD, hPS⟩ := id hP
  have hM9 := ga_met (hM l G tc ad H.size hC.2.2.2.2.2.2.2.2.2.2.1 (fun v hv => hos v (List.mem_append_left _ (List.mem_reverse.mpr hv)))) ga_Xno
  have hw := ga_ws_warm hF hts
  obtain ⟨h1, h2, h3, h4, h5⟩ := id hF
  rw [hh] at h1
  have hB : vx_CSW R s args (ga_y M).cls idx (ga_y M') (ga_b M') (ga_n M') (ga_r M') (ga_hh M') (ga_ws M') (ga_rm t' mc' ms') mc' ms' n := by
    refine ⟨⟨rfl, rfl, by show t' + 1 ≤ R.frames; omega, ?_, hw, ?_⟩, hts _ h1, hts _ h2, h3, fun sig hs => ?_, hts _ hlk, hts _ hV⟩
    · show 8 + (ga_n M' + 11) + 35 * t' ≤ R.locals
      omega
    · unfold ga_ws; rw [hh]; exact List.mem_cons_self
    · rw [hs] at h4
      exact (Option.some.inj h4).symm
  refine ga_after hC hP hl hol (st2 := st2) hos.app (vx_runSW (As := as.map (ga_v ad)) ⟨hC.1, hC.2.1, hC.2.2.1, hC.2.2.2.2.1, hts⟩ hM9 hB ⟨ga_Pc.blind, fun U hU hW => ga_pre hC hP (as := as) U hU hW⟩ rfl (by rw [List.length_map]; exact hln) hl.1 ?_ (lv_room (by rw [ga_cats_eq]; exact hcat)) hd ⟨by rw [hRR.1]; exact hkc, by rw [hRR.2.1]; exact hks⟩) k
  show (as.reverse ++ st2).map (ga_v ad) = _
  rw [List.map_append, List.map_reverse]
end GaThrows
