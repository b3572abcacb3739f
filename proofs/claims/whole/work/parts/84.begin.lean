-- the reference: begin
def kdE (σ : ga_S) (x u : Int) : Prop := σ.1 66 x = σ.1 66 u
def ptE (σ : ga_S) (x u : Int) : Prop := σ.1 64 x = σ.1 64 u
theorem kdE_q (σ : ga_S) : eqR (kdE σ) := ⟨fun _ => rfl, fun _ _ h => h.symm, fun _ _ _ h g => h.trans g⟩
theorem ptE_q (σ : ga_S) : eqR (ptE σ) := ⟨fun _ => rfl, fun _ _ h => h.symm, fun _ _ _ h g => h.trans g⟩
/-- up to b: itself, or the least like one where that one is before b -/
noncomputable def upF (L : Int → Prop) (E : Int → Int → Prop) (T : Nat) (a b : Int) : Int := if lst L E T a < b then lst L E T a else a
section UpF
variable {L : Int → Prop} {E : Int → Int → Prop} {T : Nat} {nd : Int → Int} {a b : Int}
theorem upF_0 (e : eqR E) (a1 : 0 ≤ a) (a2 : a < T) (la : L a) : upF L E T a 0 = a := by
  have h := lst_at e a1 a2 la
  unfold upF
  rw [if_neg (by omega)]
theorem upF_end (e : eqR E) (a1 : 0 ≤ a) (a2 : a < T) (la : L a) : upF L E T a a = lsM L E T a := by
  have h := lst_at e a1 a2 la
  rw [lsM_y la]
  unfold upF
  split
  · rfl
  · omega
theorem upF_no (e : eqR E) (a1 : 0 ≤ a) (a2 : a < T) (la : L a) (hn : ¬ (L b ∧ E b a ∧ upF L E T a b = a)) (b1 : 0 ≤ b) (b2 : b < a) : upF L E T a (b + 1) = upF L E T a b := by
  have h := lst_at e a1 a2 la
  unfold upF at hn ⊢
  by_cases q : lst L E T a < b
  · rw [if_pos q, if_pos (by omega)]
  · rw [if_neg q] at hn
    rw [if_neg q]
    by_cases q2 : lst L E T a < b + 1
    · have q3 : lst L E T a = b := by omega
      rw [q3] at h
      exact absurd ⟨h.2.2.1, e.2.1 _ _ h.2.2.2.1, rfl⟩ hn
    · rw [if_neg q2]
theorem upF_yes (e : eqR E) (a1 : 0 ≤ a) (a2 : a < T) (la : L a) (hL : L b) (hE : E b a) (hu : upF L E T a b = a) (b1 : 0 ≤ b) (b2 : b < a) : upF L E T a (b + 1) = lsM L E T b := by
  have h := lst_at e a1 a2 la
  have e1 : lst L E T b = lst L E T a := (lst_eq e.1 e.2.1 e.2.2 b1 (by omega) a1 a2 hL la).mpr hE
  have hb : ¬ lst L E T a > b := fun w => h.2.2.2.2 b b1 w hL (e.2.1 _ _ hE)
  rw [lsM_y hL, e1]
  unfold upF
  rw [if_pos (by omega)]
end UpF
theorem W_begin_D {Q : ga_Po} (σ : ga_S) (y3 y4 : Option ga_V)
    (KK : ∀ (τ : ga_S) (z3 z4 : Option ga_V), exc [75] σ τ → (∀ x : Int, 0 ≤ x → x < 60 → τ.1 75 x = lsM (bL σ) (kdE σ) 60 x) → ga_W 4 0 0 0 0 mX11_begin Q ga_nox 124 [some (Vr 63), some (Vi (sz (fun x => tv (bL σ x ∧ lsM (bL σ) (kdE σ) 60 x = x)) 60)), some (Vi 60), z3, z4] [] (HP τ)) : ga_W 4 0 0 0 0 mX11_begin Q ga_nox 4 [some (Vr 63), some (Vi 0), some (Vi ((0 : Nat) : Int)), y3, y4] [] (HP σ) := by
  have LV : ∀ τ, exc [75] σ τ → ∀ x, bL τ x ↔ bL σ x := fun τ h x => by rw [cg_bL (core_exc h (by decide))]
  have hb := fun m : Nat => sz_b (f := fun x => tv (bL σ x ∧ lsM (bL σ) (kdE σ) 60 x = x)) (fun _ => tv_le) (n := m)
  refine (ga_loop 60 (fun a => ∀ τ z3 z4, exc [75] σ τ → (∀ x : Int, 0 ≤ x → x < a → τ.1 75 x = lsM (bL σ) (kdE σ) 60 x) → ga_W 4 0 0 0 0 mX11_begin Q ga_nox 4 [some (Vr 63), some (Vi (sz (fun x => tv (bL σ x ∧ lsM (bL σ) (kdE σ) 60 x = x)) a)), some (Vi (a : Int)), z3, z4] [] (HP τ)) ?_ ?_ 0 (Nat.zero_le _) σ y3 y4 exc_r (fun x x1 x2 => by omega) : _)
  · intro τ z3 z4 hx hd
    refine ga_iload_n dX11_begin_4 rfl ?_
    refine ga_bipush dX11_begin_5 ⟨by decide, by decide⟩ (by decide) ?_
    refine ga_icmp_ge (tgt := 124) dX11_begin_7 rfl (fun c_7 => ?_) (fun c_7 => ?_)
    · exact KK τ _ _ hx hd
    · omega
  · intro a ha k τ z3 z4 hx hd
    have h5 := hb a
    simp only [sz_s _ a] at k
    -- the count, when the row stands
    have R92 : ∀ (τ : ga_S) (z3 z4 : Option ga_V), exc [75] σ τ → (∀ x : Int, 0 ≤ x → x < a + 1 → τ.1 75 x = lsM (bL σ) (kdE σ) 60 x) → ga_W 4 0 0 0 0 mX11_begin Q ga_nox 92 [some (Vr 63), some (Vi (sz (fun x => tv (bL σ x ∧ lsM (bL σ) (kdE σ) 60 x = x)) a)), some (Vi (a : Int)), z3, z4] [] (HP τ) := by
      intro τ z3 z4 hx hd
      have T116 : ∀ v : Int, v = tv (bL σ a ∧ lsM (bL σ) (kdE σ) 60 a = a) → ga_W 4 0 0 0 0 mX11_begin Q ga_nox 116 [some (Vr 63), some (Vi (sz (fun x => tv (bL σ x ∧ lsM (bL σ) (kdE σ) 60 x = x)) a)), some (Vi (a : Int)), z3, z4] [Vi v, Vi (sz (fun x => tv (bL σ x ∧ lsM (bL σ) (kdE σ) 60 x = x)) a)] (HP τ) := by
        intro v hv
        have hv2 := tv_le (p := bL σ a ∧ lsM (bL σ) (kdE σ) 60 a = a)
        rw [← hv] at k hv2
        refine ga_iadd dX11_begin_116 rfl (⟨by omega, by omega⟩) ?_
        refine ga_istore_n (lv2 := [_, _, _, _, _]) dX11_begin_117 (by decide) rfl rfl ?_
        refine ga_iinc (z := ((a + 1 : Nat) : Int)) (lv2 := [_, _, _, _, _]) dX11_begin_118 (by decide) rfl rfl (by omega) (⟨by omega, by omega⟩) rfl ?_
        refine ga_goto (tgt := 4) dX11_begin_121 rfl ?_
        exact k τ _ _ hx (fun x x1 x2 => hd x x1 (by omega))
      refine ga_iload_n dX11_begin_92 rfl ?_
      refine ga_aload_n dX11_begin_93 rfl ?_
      refine ga_iload_n dX11_begin_94 rfl ?_
      refine hc_V (T_X11_isLive a τ (by omega) (by omega)) fX11_isLive rfl kX11_isLive lkX11_143 dX11_begin_95 rfl rfl rfl rfl rfl rfl rfl rfl ?_
      refine ga_if_eq (tgt := 115) dX11_begin_98 rfl (fun c_98 => ?_) (fun c_98 => ?_)
      · rw [tv_eq0, LV τ hx] at c_98
        refine ga_iconst dX11_begin_115 ⟨by decide, by decide⟩ ?_
        exact T116 0 (tvz (fun z => c_98 z.1)).symm
      · rw [tv_ne0, LV τ hx] at c_98
        have e := hd a (by omega) (by omega)
        refine ga_aload_n dX11_begin_101 rfl ?_
        refine hg_getR grX11_45 dX11_begin_102 rfl rfl ?_
        refine ga_iload_n dX11_begin_105 rfl ?_
        refine hg_iald dX11_begin_106 rfl (by omega) (by omega) ?_
        refine ga_iload_n dX11_begin_107 rfl ?_
        refine ga_icmp_ne (tgt := 115) dX11_begin_108 rfl (fun c_108 => ?_) (fun c_108 => ?_)
        · rw [e] at c_108
          refine ga_iconst dX11_begin_115 ⟨by decide, by decide⟩ ?_
          exact T116 0 (tvz (fun z => c_108 z.2)).symm
        · rw [e] at c_108
          refine ga_iconst dX11_begin_111 ⟨by decide, by decide⟩ ?_
          refine ga_goto (tgt := 116) dX11_begin_112 rfl ?_
          exact T116 1 (tv1 ⟨c_98, c_108⟩).symm
    refine ga_iload_n dX11_begin_4 rfl ?_
    refine ga_bipush dX11_begin_5 ⟨by decide, by decide⟩ (by decide) ?_
    refine ga_icmp_ge (tgt := 124) dX11_begin_7 rfl (fun c_7 => ?_) (fun c_7 => ?_)
    · omega
    · refine ga_aload_n dX11_begin_10 rfl ?_
      refine hg_getR grX11_45 dX11_begin_11 rfl rfl ?_
      refine ga_iload_n dX11_begin_14 rfl ?_
      refine ga_iload_n dX11_begin_15 rfl ?_
      refine hg_iast dX11_begin_16 rfl (by omega) (by omega) ?_
      refine ga_iconst dX11_begin_17 ⟨by decide, by decide⟩ ?_
      refine ga_istore_n (lv2 := [_, _, _, _, _]) dX11_begin_18 (by decide) rfl rfl ?_
      have x1 : exc [75] σ (stI τ 75 (ga_up (τ.1 75) a a)) := exc_st hx (by decide)
      have d1 : ∀ x : Int, 0 ≤ x → x < a → (stI τ 75 (ga_up (τ.1 75) a a)).1 75 x = lsM (bL σ) (kdE σ) 60 x := fun x q1 q2 => by
        rw [stI_at, ga_up_ne _ _ (by omega)]; exact hd x q1 q2
      rcases Classical.em (bL σ a) with la | la
      · refine (ga_loop a (fun b => ∀ τ, exc [75] σ τ → (∀ x : Int, 0 ≤ x → x < a → τ.1 75 x = lsM (bL σ) (kdE σ) 60 x) → τ.1 75 a = upF (bL σ) (kdE σ) 60 a b → ga_W 4 0 0 0 0 mX11_begin Q ga_nox 19 [some (Vr 63), some (Vi (sz (fun x => tv (bL σ x ∧ lsM (bL σ) (kdE σ) 60 x = x)) a)), some (Vi (a : Int)), some (Vi (b : Int)), z4] [] (HP τ)) ?_ ?_ 0 (Nat.zero_le _) _ x1 d1 (by rw [stI_at, ga_up_at]; exact (upF_0 (kdE_q σ) (by omega) (by omega) la).symm) : _)
        · intro τ hx hd hu
          rw [upF_end (kdE_q σ) (by omega) (by omega) la] at hu
          refine ga_iload_n dX11_begin_19 rfl ?_
          refine ga_iload_n dX11_begin_20 rfl ?_
          refine ga_icmp_ge (tgt := 92) dX11_begin_21 rfl (fun c_21 => ?_) (fun c_21 => ?_)
          · refine R92 τ _ _ hx (fun x q1 q2 => ?_)
            by_cases q : x = a
            · rw [q]; exact hu
            · exact hd x q1 (by omega)
          · omega
        · intro b hb k2 τ hx hd hu
          have T85 : ∀ w : Int, w = upF (bL σ) (kdE σ) 60 a ((b + 1 : Nat) : Int) → ga_W 4 0 0 0 0 mX11_begin Q ga_nox 85 [some (Vr 63), some (Vi (sz (fun x => tv (bL σ x ∧ lsM (bL σ) (kdE σ) 60 x = x)) a)), some (Vi (a : Int)), some (Vi (b : Int)), z4] [Vi w, Vi (a : Int), Vr 75] (HP τ) := by
            intro w hw
            refine hg_iast dX11_begin_85 rfl (by omega) (by omega) ?_
            refine ga_iinc (z := ((b + 1 : Nat) : Int)) (lv2 := [_, _, _, _, _]) dX11_begin_86 (by decide) rfl rfl (by omega) (⟨by omega, by omega⟩) rfl ?_
            refine ga_goto (tgt := 19) dX11_begin_89 rfl ?_
            refine k2 _ (exc_st hx (by decide)) (fun x q1 q2 => ?_) ?_
            · rw [stI_at, ga_up_ne _ _ (by omega)]; exact hd x q1 q2
            · rw [stI_at, ga_up_at]; exact hw
          have NO : ¬ (bL σ b ∧ kdE σ b a ∧ upF (bL σ) (kdE σ) 60 a b = a) → ga_W 4 0 0 0 0 mX11_begin Q ga_nox 79 [some (Vr 63), some (Vi (sz (fun x => tv (bL σ x ∧ lsM (bL σ) (kdE σ) 60 x = x)) a)), some (Vi (a : Int)), some (Vi (b : Int)), z4] [Vi (a : Int), Vr 75] (HP τ) := by
            intro hn
            refine ga_aload_n dX11_begin_79 rfl ?_
            refine hg_getR grX11_45 dX11_begin_80 rfl rfl ?_
            refine ga_iload_n dX11_begin_83 rfl ?_
            refine hg_iald dX11_begin_84 rfl (by omega) (by omega) ?_
            refine T85 _ ?_
            rw [hu]
            exact (upF_no (kdE_q σ) (by omega) (by omega) la hn (by omega) (by omega)).symm
          have e66 : τ.1 66 = σ.1 66 := hx.1 66 (by decide)
          refine ga_iload_n dX11_begin_19 rfl ?_
          refine ga_iload_n dX11_begin_20 rfl ?_
          refine ga_icmp_ge (tgt := 92) dX11_begin_21 rfl (fun c_21 => ?_) (fun c_21 => ?_)
          · omega
          · refine ga_aload_n dX11_begin_24 rfl ?_
            refine ga_iload_n dX11_begin_25 rfl ?_
            refine hc_V (T_X11_isLive a τ (by omega) (by omega)) fX11_isLive rfl kX11_isLive lkX11_143 dX11_begin_26 rfl rfl rfl rfl rfl rfl rfl rfl ?_
            refine ga_if_eq (tgt := 92) dX11_begin_29 rfl (fun c_29 => ?_) (fun c_29 => ?_)
            · rw [tv_eq0, LV τ hx] at c_29
              exact absurd la c_29
            · refine ga_aload_n dX11_begin_32 rfl ?_
              refine hg_getR grX11_45 dX11_begin_33 rfl rfl ?_
              refine ga_iload_n dX11_begin_36 rfl ?_
              refine ga_aload_n dX11_begin_37 rfl ?_
              refine ga_iload_n dX11_begin_38 rfl ?_
              refine hc_V (T_X11_isLive b τ (by omega) (by omega)) fX11_isLive rfl kX11_isLive lkX11_143 dX11_begin_39 rfl rfl rfl rfl rfl rfl rfl rfl ?_
              refine ga_if_eq (tgt := 79) dX11_begin_42 rfl (fun c_42 => ?_) (fun c_42 => ?_)
              · rw [tv_eq0, LV τ hx] at c_42
                exact NO (fun q => c_42 q.1)
              · rw [tv_ne0, LV τ hx] at c_42
                refine ga_aload_n dX11_begin_45 rfl ?_
                refine hg_getR grX11_16 dX11_begin_46 rfl rfl ?_
                refine ga_iload_n dX11_begin_49 rfl ?_
                refine hg_iald dX11_begin_50 rfl (by omega) (by omega) ?_
                refine ga_aload_n dX11_begin_51 rfl ?_
                refine hg_getR grX11_16 dX11_begin_52 rfl rfl ?_
                refine ga_iload_n dX11_begin_55 rfl ?_
                refine hg_iald dX11_begin_56 rfl (by omega) (by omega) ?_
                refine ga_icmp_ne (tgt := 79) dX11_begin_57 rfl (fun c_57 => ?_) (fun c_57 => ?_)
                · rw [e66] at c_57
                  exact NO (fun q => c_57 q.2.1)
                · rw [e66] at c_57
                  refine ga_aload_n dX11_begin_60 rfl ?_
                  refine hg_getR grX11_45 dX11_begin_61 rfl rfl ?_
                  refine ga_iload_n dX11_begin_64 rfl ?_
                  refine hg_iald dX11_begin_65 rfl (by omega) (by omega) ?_
                  refine ga_iload_n dX11_begin_66 rfl ?_
                  refine ga_icmp_ne (tgt := 79) dX11_begin_67 rfl (fun c_67 => ?_) (fun c_67 => ?_)
                  · rw [hu] at c_67
                    exact NO (fun q => c_67 q.2.2)
                  · rw [hu] at c_67
                    refine ga_aload_n dX11_begin_70 rfl ?_
                    refine hg_getR grX11_45 dX11_begin_71 rfl rfl ?_
                    refine ga_iload_n dX11_begin_74 rfl ?_
                    refine hg_iald dX11_begin_75 rfl (by omega) (by omega) ?_
                    refine ga_goto (tgt := 85) dX11_begin_76 rfl ?_
                    refine T85 _ ?_
                    rw [hd b (by omega) (by omega)]
                    exact (upF_yes (kdE_q σ) (by omega) (by omega) la c_42 c_57 c_67 (by omega) (by omega)).symm
      · have d2 : ∀ x : Int, 0 ≤ x → x < a + 1 → (stI τ 75 (ga_up (τ.1 75) a a)).1 75 x = lsM (bL σ) (kdE σ) 60 x := fun x q1 q2 => by
          by_cases q : x = a
          · rw [q, stI_at, ga_up_at, lsM_n la]
          · exact d1 x q1 (by omega)
        refine ga_iload_n dX11_begin_19 rfl ?_
        refine ga_iload_n dX11_begin_20 rfl ?_
        refine ga_icmp_ge (tgt := 92) dX11_begin_21 rfl (fun c_21 => ?_) (fun c_21 => ?_)
        · exact R92 _ _ _ x1 d2
        · refine ga_aload_n dX11_begin_24 rfl ?_
          refine ga_iload_n dX11_begin_25 rfl ?_
          refine hc_V (T_X11_isLive a _ (by omega) (by omega)) fX11_isLive rfl kX11_isLive lkX11_143 dX11_begin_26 rfl rfl rfl rfl rfl rfl rfl rfl ?_
          refine ga_if_eq (tgt := 92) dX11_begin_29 rfl (fun c_29 => ?_) (fun c_29 => ?_)
          · exact R92 _ _ _ x1 d2
          · rw [tv_ne0, LV _ x1] at c_29
            exact absurd c_29 la
theorem W_begin_N {Q : ga_Po} (σ σ0 : ga_S) (N D M E : Nat) (hw : wfR σ N D M E) (y3 y4 : Option ga_V) (h0 : exc [75] σ σ0) (hC : 0 ≤ sz (fun x => tv (bL σ x ∧ lsM (bL σ) (kdE σ) 60 x = x)) 60 ∧ sz (fun x => tv (bL σ x ∧ lsM (bL σ) (kdE σ) 60 x = x)) 60 ≤ 60)
    (KK : ∀ (τ : ga_S) (z3 z4 : Option ga_V), exc [75, 76] σ τ → τ.1 75 = σ0.1 75 → (∀ x : Int, 0 ≤ x → x < 80 → τ.1 76 x = lsM (bU σ) (ptE σ) 80 x) → ga_W 4 0 0 0 0 mX11_begin Q ga_nox 249 [some (Vr 63), some (Vi (sz (fun x => tv (bL σ x ∧ lsM (bL σ) (kdE σ) 60 x = x)) 60 + sz (fun x => tv (bU σ x ∧ lsM (bU σ) (ptE σ) 80 x = x)) 80)), some (Vi 80), z3, z4] [] (HP τ)) : ga_W 4 0 0 0 0 mX11_begin Q ga_nox 126 [some (Vr 63), some (Vi (sz (fun x => tv (bL σ x ∧ lsM (bL σ) (kdE σ) 60 x = x)) 60)), some (Vi ((0 : Nat) : Int)), y3, y4] [] (HP σ0) := by
  have e70 : ∀ τ, exc [75, 76] σ τ → τ.1 70 = σ.1 70 := fun τ h => h.1 70 (by decide)
  have hD := hw.1.2.1
  have hD2 := hw.1.2.2.1
  have hE := hw.2.1.2.1
  have hE2 := hw.2.1.2.2.1
  have US : ∀ τ, exc [75, 76] σ τ → ∀ x, bU τ x ↔ bU σ x := fun τ h x => by rw [cg_bU (core_exc h (by decide))]
  have hb := fun m : Nat => sz_b (f := fun x => tv (bU σ x ∧ lsM (bU σ) (ptE σ) 80 x = x)) (fun _ => tv_le) (n := m)
  refine ga_eqlv (lv2 := [some (Vr 63), some (Vi (sz (fun x => tv (bL σ x ∧ lsM (bL σ) (kdE σ) 60 x = x)) 60 + sz (fun x => tv (bU σ x ∧ lsM (bU σ) (ptE σ) 80 x = x)) 0)), some (Vi ((0 : Nat) : Int)), y3, y4]) (by rw [show sz (fun x => tv (bU σ x ∧ lsM (bU σ) (ptE σ) 80 x = x)) 0 = 0 from rfl, Int.add_zero]) ?_
  refine (ga_loop 80 (fun a => ∀ τ z3 z4, exc [75, 76] σ τ → τ.1 75 = σ0.1 75 → (∀ x : Int, 0 ≤ x → x < a → τ.1 76 x = lsM (bU σ) (ptE σ) 80 x) → ga_W 4 0 0 0 0 mX11_begin Q ga_nox 126 [some (Vr 63), some (Vi (sz (fun x => tv (bL σ x ∧ lsM (bL σ) (kdE σ) 60 x = x)) 60 + sz (fun x => tv (bU σ x ∧ lsM (bU σ) (ptE σ) 80 x = x)) a)), some (Vi (a : Int)), z3, z4] [] (HP τ)) ?_ ?_ 0 (Nat.zero_le _) σ0 y3 y4 (exc_m h0 (by decide)) rfl (fun x x1 x2 => by omega) : _)
  · intro τ z3 z4 hx h75 hd
    refine ga_iload_n dX11_begin_126 rfl ?_
    refine ga_bipush dX11_begin_127 ⟨by decide, by decide⟩ (by decide) ?_
    refine ga_icmp_ge (tgt := 249) dX11_begin_129 rfl (fun c_129 => ?_) (fun c_129 => ?_)
    · exact KK τ _ _ hx h75 hd
    · omega
  · intro a ha k τ z3 z4 hx h75 hd
    have h5 := hb a
    simp only [sz_s _ a] at k
    have R221 : ∀ (τ : ga_S) (z4 : Option ga_V), exc [75, 76] σ τ → τ.1 75 = σ0.1 75 → (∀ x : Int, 0 ≤ x → x < a + 1 → τ.1 76 x = lsM (bU σ) (ptE σ) 80 x) → ga_W 4 0 0 0 0 mX11_begin Q ga_nox 221 [some (Vr 63), some (Vi (sz (fun x => tv (bL σ x ∧ lsM (bL σ) (kdE σ) 60 x = x)) 60 + sz (fun x => tv (bU σ x ∧ lsM (bU σ) (ptE σ) 80 x = x)) a)), some (Vi (a : Int)), some (Vi (tv (bU σ a))), z4] [] (HP τ) := by
      intro τ z4 hx h75 hd
      have T241 : ∀ v : Int, v = tv (bU σ a ∧ lsM (bU σ) (ptE σ) 80 a = a) → ga_W 4 0 0 0 0 mX11_begin Q ga_nox 241 [some (Vr 63), some (Vi (sz (fun x => tv (bL σ x ∧ lsM (bL σ) (kdE σ) 60 x = x)) 60 + sz (fun x => tv (bU σ x ∧ lsM (bU σ) (ptE σ) 80 x = x)) a)), some (Vi (a : Int)), some (Vi (tv (bU σ a))), z4] [Vi v, Vi (sz (fun x => tv (bL σ x ∧ lsM (bL σ) (kdE σ) 60 x = x)) 60 + sz (fun x => tv (bU σ x ∧ lsM (bU σ) (ptE σ) 80 x = x)) a)] (HP τ) := by
        intro v hv
        have hv2 := tv_le (p := bU σ a ∧ lsM (bU σ) (ptE σ) 80 a = a)
        rw [← hv] at k hv2
        refine ga_iadd (z := (sz (fun x => tv (bL σ x ∧ lsM (bL σ) (kdE σ) 60 x = x)) 60 + (sz (fun x => tv (bU σ x ∧ lsM (bU σ) (ptE σ) 80 x = x)) a + v))) dX11_begin_241 (by omega) (⟨by omega, by omega⟩) ?_
        refine ga_istore_n (lv2 := [_, _, _, _, _]) dX11_begin_242 (by decide) rfl rfl ?_
        refine ga_iinc (z := ((a + 1 : Nat) : Int)) (lv2 := [_, _, _, _, _]) dX11_begin_243 (by decide) rfl rfl (by omega) (⟨by omega, by omega⟩) rfl ?_
        refine ga_goto (tgt := 126) dX11_begin_246 rfl ?_
        exact k τ _ _ hx h75 (fun x x1 x2 => hd x x1 (by omega))
      refine ga_iload_n dX11_begin_221 rfl ?_
      refine ga_iload_n dX11_begin_222 rfl ?_
      refine ga_if_eq (tgt := 240) dX11_begin_223 rfl (fun c_223 => ?_) (fun c_223 => ?_)
      · rw [tv_eq0] at c_223
        refine ga_iconst dX11_begin_240 ⟨by decide, by decide⟩ ?_
        exact T241 0 (tvz (fun z => c_223 z.1)).symm
      · rw [tv_ne0] at c_223
        have e := hd a (by omega) (by omega)
        refine ga_aload_n dX11_begin_226 rfl ?_
        refine hg_getR grX11_48 dX11_begin_227 rfl rfl ?_
        refine ga_iload_n dX11_begin_230 rfl ?_
        refine hg_iald dX11_begin_231 rfl (by omega) (by omega) ?_
        refine ga_iload_n dX11_begin_232 rfl ?_
        refine ga_icmp_ne (tgt := 240) dX11_begin_233 rfl (fun c_233 => ?_) (fun c_233 => ?_)
        · rw [e] at c_233
          refine ga_iconst dX11_begin_240 ⟨by decide, by decide⟩ ?_
          exact T241 0 (tvz (fun z => c_233 z.2)).symm
        · rw [e] at c_233
          refine ga_iconst dX11_begin_236 ⟨by decide, by decide⟩ ?_
          refine ga_goto (tgt := 241) dX11_begin_237 rfl ?_
          exact T241 1 (tv1 ⟨c_223, c_233⟩).symm
    refine ga_iload_n dX11_begin_126 rfl ?_
    refine ga_bipush dX11_begin_127 ⟨by decide, by decide⟩ (by decide) ?_
    refine ga_icmp_ge (tgt := 249) dX11_begin_129 rfl (fun c_129 => ?_) (fun c_129 => ?_)
    · omega
    · have x1 : exc [75, 76] σ (stI τ 76 (ga_up (τ.1 76) a a)) := exc_st hx (by decide)
      have d1 : ∀ x : Int, 0 ≤ x → x < a → (stI τ 76 (ga_up (τ.1 76) a a)).1 76 x = lsM (bU σ) (ptE σ) 80 x := fun x q1 q2 => by
        rw [stI_at, ga_up_ne _ _ (by omega)]; exact hd x q1 q2
      refine ga_aload_n dX11_begin_132 rfl ?_
      refine hg_getR grX11_48 dX11_begin_133 rfl rfl ?_
      refine ga_iload_n dX11_begin_136 rfl ?_
      refine ga_iload_n dX11_begin_137 rfl ?_
      refine hg_iast dX11_begin_138 rfl (by omega) (by omega) ?_
      refine ga_aload_n dX11_begin_139 rfl ?_
      refine ga_iload_n dX11_begin_140 rfl ?_
      refine hc_V (T_X11_isUsedAt a _ D E (by omega) (by omega) (by rw [e70 _ x1]; exact hD) hD2 (by rw [e70 _ x1]; exact hE) hE2) fX11_isUsedAt rfl kX11_isUsedAt lkX11_149 dX11_begin_141 rfl rfl rfl rfl rfl rfl rfl rfl ?_
      rw [tv_congr (US _ x1 a)]
      refine ga_istore_n (lv2 := [_, _, _, _, _]) dX11_begin_144 (by decide) rfl rfl ?_
      refine ga_iconst dX11_begin_145 ⟨by decide, by decide⟩ ?_
      refine ga_istore (lv2 := [_, _, _, _, _]) dX11_begin_146 (by decide) rfl rfl ?_
      rcases Classical.em (bU σ a) with la | la
      · refine (ga_loop a (fun b => ∀ τ, exc [75, 76] σ τ → τ.1 75 = σ0.1 75 → (∀ x : Int, 0 ≤ x → x < a → τ.1 76 x = lsM (bU σ) (ptE σ) 80 x) → τ.1 76 a = upF (bU σ) (ptE σ) 80 a b → ga_W 4 0 0 0 0 mX11_begin Q ga_nox 148 [some (Vr 63), some (Vi (sz (fun x => tv (bL σ x ∧ lsM (bL σ) (kdE σ) 60 x = x)) 60 + sz (fun x => tv (bU σ x ∧ lsM (bU σ) (ptE σ) 80 x = x)) a)), some (Vi (a : Int)), some (Vi (tv (bU σ a))), some (Vi (b : Int))] [] (HP τ)) ?_ ?_ 0 (Nat.zero_le _) _ x1 h75 d1 (by rw [stI_at, ga_up_at]; exact (upF_0 (ptE_q σ) (by omega) (by omega) la).symm) : _)
        · intro τ hx h75 hd hu
          rw [upF_end (ptE_q σ) (by omega) (by omega) la] at hu
          refine ga_iload dX11_begin_148 rfl ?_
          refine ga_iload_n dX11_begin_150 rfl ?_
          refine ga_icmp_ge (tgt := 221) dX11_begin_151 rfl (fun c_151 => ?_) (fun c_151 => ?_)
          · refine R221 τ _ hx h75 (fun x q1 q2 => ?_)
            by_cases q : x = a
            · rw [q]; exact hu
            · exact hd x q1 (by omega)
          · omega
        · intro b hb k2 τ hx h75 hd hu
          have T214 : ∀ w : Int, w = upF (bU σ) (ptE σ) 80 a ((b + 1 : Nat) : Int) → ga_W 4 0 0 0 0 mX11_begin Q ga_nox 214 [some (Vr 63), some (Vi (sz (fun x => tv (bL σ x ∧ lsM (bL σ) (kdE σ) 60 x = x)) 60 + sz (fun x => tv (bU σ x ∧ lsM (bU σ) (ptE σ) 80 x = x)) a)), some (Vi (a : Int)), some (Vi (tv (bU σ a))), some (Vi (b : Int))] [Vi w, Vi (a : Int), Vr 76] (HP τ) := by
            intro w hw
            refine hg_iast dX11_begin_214 rfl (by omega) (by omega) ?_
            refine ga_iinc (z := ((b + 1 : Nat) : Int)) (lv2 := [_, _, _, _, _]) dX11_begin_215 (by decide) rfl rfl (by omega) (⟨by omega, by omega⟩) rfl ?_
            refine ga_goto (tgt := 148) dX11_begin_218 rfl ?_
            refine k2 _ (exc_st hx (by decide)) h75 (fun x q1 q2 => ?_) ?_
            · rw [stI_at, ga_up_ne _ _ (by omega)]; exact hd x q1 q2
            · rw [stI_at, ga_up_at]; exact hw
          have NO : ¬ (bU σ b ∧ ptE σ b a ∧ upF (bU σ) (ptE σ) 80 a b = a) → ga_W 4 0 0 0 0 mX11_begin Q ga_nox 208 [some (Vr 63), some (Vi (sz (fun x => tv (bL σ x ∧ lsM (bL σ) (kdE σ) 60 x = x)) 60 + sz (fun x => tv (bU σ x ∧ lsM (bU σ) (ptE σ) 80 x = x)) a)), some (Vi (a : Int)), some (Vi (tv (bU σ a))), some (Vi (b : Int))] [Vi (a : Int), Vr 76] (HP τ) := by
            intro hn
            refine ga_aload_n dX11_begin_208 rfl ?_
            refine hg_getR grX11_48 dX11_begin_209 rfl rfl ?_
            refine ga_iload_n dX11_begin_212 rfl ?_
            refine hg_iald dX11_begin_213 rfl (by omega) (by omega) ?_
            refine T214 _ ?_
            rw [hu]
            exact (upF_no (ptE_q σ) (by omega) (by omega) la hn (by omega) (by omega)).symm
          have e64 : τ.1 64 = σ.1 64 := hx.1 64 (by decide)
          refine ga_iload dX11_begin_148 rfl ?_
          refine ga_iload_n dX11_begin_150 rfl ?_
          refine ga_icmp_ge (tgt := 221) dX11_begin_151 rfl (fun c_151 => ?_) (fun c_151 => ?_)
          · omega
          · refine ga_iload_n dX11_begin_154 rfl ?_
            refine ga_if_eq (tgt := 221) dX11_begin_155 rfl (fun c_155 => ?_) (fun c_155 => ?_)
            · rw [tv_eq0] at c_155
              exact absurd la c_155
            · refine ga_aload_n dX11_begin_158 rfl ?_
              refine hg_getR grX11_48 dX11_begin_159 rfl rfl ?_
              refine ga_iload_n dX11_begin_162 rfl ?_
              refine ga_aload_n dX11_begin_163 rfl ?_
              refine ga_iload dX11_begin_164 rfl ?_
              refine hc_V (T_X11_isUsedAt b τ D E (by omega) (by omega) (by rw [e70 _ hx]; exact hD) hD2 (by rw [e70 _ hx]; exact hE) hE2) fX11_isUsedAt rfl kX11_isUsedAt lkX11_149 dX11_begin_166 rfl rfl rfl rfl rfl rfl rfl rfl ?_
              refine ga_if_eq (tgt := 208) dX11_begin_169 rfl (fun c_169 => ?_) (fun c_169 => ?_)
              · rw [tv_eq0, US τ hx] at c_169
                exact NO (fun q => c_169 q.1)
              · rw [tv_ne0, US τ hx] at c_169
                refine ga_aload_n dX11_begin_172 rfl ?_
                refine hg_getR grX11_7 dX11_begin_173 rfl rfl ?_
                refine ga_iload dX11_begin_176 rfl ?_
                refine hg_iald dX11_begin_178 rfl (by omega) (by omega) ?_
                refine ga_aload_n dX11_begin_179 rfl ?_
                refine hg_getR grX11_7 dX11_begin_180 rfl rfl ?_
                refine ga_iload_n dX11_begin_183 rfl ?_
                refine hg_iald dX11_begin_184 rfl (by omega) (by omega) ?_
                refine ga_icmp_ne (tgt := 208) dX11_begin_185 rfl (fun c_185 => ?_) (fun c_185 => ?_)
                · rw [e64] at c_185
                  exact NO (fun q => c_185 q.2.1)
                · rw [e64] at c_185
                  refine ga_aload_n dX11_begin_188 rfl ?_
                  refine hg_getR grX11_48 dX11_begin_189 rfl rfl ?_
                  refine ga_iload_n dX11_begin_192 rfl ?_
                  refine hg_iald dX11_begin_193 rfl (by omega) (by omega) ?_
                  refine ga_iload_n dX11_begin_194 rfl ?_
                  refine ga_icmp_ne (tgt := 208) dX11_begin_195 rfl (fun c_195 => ?_) (fun c_195 => ?_)
                  · rw [hu] at c_195
                    exact NO (fun q => c_195 q.2.2)
                  · rw [hu] at c_195
                    refine ga_aload_n dX11_begin_198 rfl ?_
                    refine hg_getR grX11_48 dX11_begin_199 rfl rfl ?_
                    refine ga_iload dX11_begin_202 rfl ?_
                    refine hg_iald dX11_begin_204 rfl (by omega) (by omega) ?_
                    refine ga_goto (tgt := 214) dX11_begin_205 rfl ?_
                    refine T214 _ ?_
                    rw [hd b (by omega) (by omega)]
                    exact (upF_yes (ptE_q σ) (by omega) (by omega) la c_169 c_185 c_195 (by omega) (by omega)).symm
      · have d2 : ∀ x : Int, 0 ≤ x → x < a + 1 → (stI τ 76 (ga_up (τ.1 76) a a)).1 76 x = lsM (bU σ) (ptE σ) 80 x := fun x q1 q2 => by
          by_cases q : x = a
          · rw [q, stI_at, ga_up_at, lsM_n la]
          · exact d1 x q1 (by omega)
        refine ga_iload dX11_begin_148 rfl ?_
        refine ga_iload_n dX11_begin_150 rfl ?_
        refine ga_icmp_ge (tgt := 221) dX11_begin_151 rfl (fun c_151 => ?_) (fun c_151 => ?_)
        · exact R221 _ _ x1 h75 d2
        · refine ga_iload_n dX11_begin_154 rfl ?_
          refine ga_if_eq (tgt := 221) dX11_begin_155 rfl (fun c_155 => ?_) (fun c_155 => ?_)
          · exact R221 _ _ x1 h75 d2
          · rw [tv_ne0] at c_155
            exact absurd c_155 la
theorem T_X11_begin (σ : ga_S) (N D M E : Nat) (hw : wfR σ N D M E) : ga_Mt 4 0 0 mX11_begin [Vr 63] (HP σ) (fun v h => ∃ τ, exc [73, 74, 75, 76] σ τ ∧ (∀ x : Int, 0 ≤ x → x < 60 → τ.1 73 x = lsM (bL σ) (kdE σ) 60 x) ∧ (∀ x : Int, 0 ≤ x → x < 80 → τ.1 74 x = lsM (bU σ) (ptE σ) 80 x) ∧ v = some (Vi (sz (fun x => tv (bL σ x ∧ lsM (bL σ) (kdE σ) 60 x = x)) 60 + sz (fun x => tv (bU σ x ∧ lsM (bU σ) (ptE σ) 80 x = x)) 80)) ∧ h = HP τ) ga_nox := by
  have hb := sz_b (f := fun x => tv (bL σ x ∧ lsM (bL σ) (kdE σ) 60 x = x)) (fun _ => tv_le) (n := 60)
  have hb2 := sz_b (f := fun x => tv (bU σ x ∧ lsM (bU σ) (ptE σ) 80 x = x)) (fun _ => tv_le) (n := 80)
  refine ga_meth [some (Vr 63), none, none, none, none] rfl rfl (by decide +kernel) (Nat.le_of_ble_eq_true rfl) rfl ?_
  refine ga_iconst dX11_begin_0 ⟨by decide, by decide⟩ ?_
  refine ga_istore_n (lv2 := [_, _, _, _, _]) dX11_begin_1 (by decide) rfl rfl ?_
  refine ga_iconst dX11_begin_2 ⟨by decide, by decide⟩ ?_
  refine ga_istore_n (lv2 := [_, _, _, _, _]) dX11_begin_3 (by decide) rfl rfl ?_
  refine W_begin_D σ none none (fun τ z3 z4 hx hd => ?_)
  refine ga_iconst dX11_begin_124 ⟨by decide, by decide⟩ ?_
  refine ga_istore_n (lv2 := [_, _, _, _, _]) dX11_begin_125 (by decide) rfl rfl ?_
  refine W_begin_N σ τ N D M E hw _ _ hx hb (fun τ2 z3 z4 hx2 h75 hd2 => ?_)
  refine ga_aload_n dX11_begin_249 rfl ?_
  refine hc_Vv (T_X11_take τ2) fX11_take rfl kX11_take lkX11_155 dX11_begin_250 rfl rfl rfl rfl rfl rfl rfl rfl ?_
  refine ga_iload_n dX11_begin_253 rfl ?_
  refine ga_ret (v := some _) ?_ rfl (by decide) (by decide) ⟨dX11_begin_254, _, rfl, rfl⟩
  refine ⟨_, exc_st (exc_st (exc_m hx2 (by decide)) (by decide)) (by decide), fun x x1 x2 => ?_, fun x x1 x2 => ?_, rfl, rfl⟩
  · show cpF (τ2.1 73) (τ2.1 75) 60 x = _
    rw [cpF_in x1 x2, h75]
    exact hd x x1 x2
  · show cpF (τ2.1 74) (τ2.1 76) 80 x = _
    rw [cpF_in x1 x2]
    exact hd2 x x1 x2
