-- the reference: refine
def rfk (β τ : ga_S) (k : Nat) : Prop := nEq 60 (bL β) (τ.1 73) (RDN β k).1 ∧ nEq 80 (bU β) (τ.1 74) (RDN β k).2 ∧ okD β (τ.1 73) ∧ okN β (τ.1 74) ∧ ∀ x : Int, 0 ≤ x → x < 60 → bL β x → τ.1 73 x ≤ x ∧ bL β (τ.1 73 x) ∧ τ.1 73 (τ.1 73 x) = τ.1 73 x
theorem lsM_nEq {L : Int → Prop} {E : Int → Int → Prop} {T : Nat} (e : eqR E) {f R : Int → Int} (hf : ∀ x : Int, 0 ≤ x → x < T → f x = lsM L E T x) (hR : ∀ x u : Int, 0 ≤ x → x < T → 0 ≤ u → u < T → L x → L u → (R x = R u ↔ E x u)) : nEq T L f R := by
  intro x u x1 x2 u1 u2 lx lu
  rw [hf x x1 x2, hf u u1 u2, lsM_y lx, lsM_y lu, lst_eq e.1 e.2.1 e.2.2 x1 x2 u1 u2 lx lu, hR x u x1 x2 u1 u2 lx lu]
theorem lsM_ok {L : Int → Prop} {E : Int → Int → Prop} {T : Nat} (e : eqR E) {f : Int → Int} (hf : ∀ x : Int, 0 ≤ x → x < T → f x = lsM L E T x) : ∀ x : Int, 0 ≤ x → x < T → L x → 0 ≤ f x ∧ f x < T ∧ f x ≤ x ∧ L (f x) ∧ f (f x) = f x := by
  intro x x1 x2 lx
  have h := lst_at e x1 x2 lx
  have e1 : f x = lst L E T x := by rw [hf x x1 x2, lsM_y lx]
  have e2 : f (f x) = f x := by rw [e1, hf _ h.1 (by omega), lsM_y h.2.2.1, lst_lst e x1 x2 lx]
  rw [e1] at e2 ⊢
  exact ⟨h.1, by omega, h.2.1, h.2.2.1, e2⟩
theorem rfk_mk {β τ : ga_S} {k : Nat} {E1 E2 : Int → Int → Prop} (e1 : eqR E1) (e2 : eqR E2) (h1 : ∀ x : Int, 0 ≤ x → x < 60 → τ.1 73 x = lsM (bL β) E1 60 x) (h2 : ∀ x : Int, 0 ≤ x → x < 80 → τ.1 74 x = lsM (bU β) E2 80 x) (g1 : ∀ x u : Int, 0 ≤ x → x < 60 → 0 ≤ u → u < 60 → bL β x → bL β u → ((RDN β k).1 x = (RDN β k).1 u ↔ E1 x u)) (g2 : ∀ x u : Int, 0 ≤ x → x < 80 → 0 ≤ u → u < 80 → bU β x → bU β u → ((RDN β k).2 x = (RDN β k).2 u ↔ E2 x u)) : rfk β τ k := by
  have o1 := lsM_ok (T := 60) e1 h1
  have o2 := lsM_ok (T := 80) e2 h2
  exact ⟨lsM_nEq (T := 60) e1 h1 g1, lsM_nEq (T := 80) e2 h2 g2, fun x a b c => ⟨(o1 x a b c).1, (o1 x a b c).2.1⟩, fun x a b c => ⟨(o2 x a b c).1, (o2 x a b c).2.1⟩, fun x a b c => (o1 x a b c).2.2⟩
theorem cntB_is {β : ga_S} {k : Nat} {E1 E2 : Int → Int → Prop} (e1 : eqR E1) (e2 : eqR E2) (g1 : ∀ x u : Int, 0 ≤ x → x < 60 → 0 ≤ u → u < 60 → bL β x → bL β u → ((RDN β k).1 x = (RDN β k).1 u ↔ E1 x u)) (g2 : ∀ x u : Int, 0 ≤ x → x < 80 → 0 ≤ u → u < 80 → bU β x → bU β u → ((RDN β k).2 x = (RDN β k).2 u ↔ E2 x u)) : sz (fun x => tv (bL β x ∧ lsM (bL β) E1 60 x = x)) 60 + sz (fun x => tv (bU β x ∧ lsM (bU β) E2 80 x = x)) 80 = cntB β k := by
  unfold cntB
  rw [nF_lst (T := 60) e1 g1, nF_lst (T := 80) e2 g2]
theorem rfk_D {β τ : ga_S} {k : Nat} (hp : prtB β) (hw : pinB β ∧ usdB β ∧ grpB β) (h : rfk β τ k) : ∀ x u : Int, 0 ≤ x → x < 60 → 0 ≤ u → u < 60 → bL β x → bL β u → ((RDN β (k + 1)).1 x = (RDN β (k + 1)).1 u ↔ relD β (τ.1 73) (τ.1 74) x u) := by
  intro x u x1 x2 u1 u2 lx lu
  rw [RDN_D β k x u x1 x2 u1 u2 lx lu, ← h.1 x u x1 x2 u1 u2 lx lu, ← lkD_inv hw.1 hw.2.1 hw.2.2 h.2.1 (fun y y1 y2 uy => ⟨(h.2.2.2.1 y y1 y2 uy).1, RDN_0 hp k y y1 y2 uy⟩) x1 x2 u1 u2]
  exact Iff.rfl
theorem rfk_N {β τ : ga_S} {k : Nat} (hw : pinB β ∧ usdB β ∧ grpB β) (h : rfk β τ k) : ∀ x u : Int, 0 ≤ x → x < 80 → 0 ≤ u → u < 80 → bU β x → bU β u → ((RDN β (k + 1)).2 x = (RDN β (k + 1)).2 u ↔ relN β (τ.1 74) (τ.1 73) x u) := by
  intro x u x1 x2 u1 u2 lx lu
  rw [RDN_N β k x u x1 x2 u1 u2 lx lu, ← h.2.1 x u x1 x2 u1 u2 lx lu, ← lkN_inv hw.2.2 h.1]
  exact Iff.rfl
theorem ex_s {Q : Nat → Prop} {n : Nat} : (∃ k : Nat, k < n + 1 ∧ Q k) ↔ (∃ k : Nat, k < n ∧ Q k) ∨ Q n := by
  constructor
  · rintro ⟨k, h1, h2⟩
    by_cases e : k = n
    · right; rw [← e]; exact h2
    · left; exact ⟨k, by omega, h2⟩
  · rintro (⟨k, h1, h2⟩ | h)
    · exact ⟨k, by omega, h2⟩
    · exact ⟨n, by omega, h⟩
/-- a device of side 0 in a class with another one of side 0 -/
def anP (β : ga_S) (C : Int → Int) (a : Int) : Prop := bL β a ∧ ∃ b : Nat, b < 30 ∧ ((b : Int) ≠ a ∧ bL β b ∧ C b = C a)
abbrev RF : List Nat := [63, 73, 74, 75, 76]
theorem W_refine_T (σ τ : ga_S) (K : Nat) (hx : exc RF σ τ) (h : rfk σ τ K) (h63 : τ.1 63 = ga_up (σ.1 63) 14 K) (y1 y2 : Int) (y3 y4 y5 : Option ga_V) : ga_W 6 0 0 0 0 mX11_refine (fun v h => ∃ τ, exc RF σ τ ∧ rfk σ τ K ∧ τ.1 63 = ga_up (ga_up (σ.1 63) 14 K) 15 (sz (fun a => tv (anP σ (τ.1 73) a)) 30) ∧ v = none ∧ h = HP τ) ga_nox 55 [some (Vr 63), some (Vi y1), some (Vi y2), y3, y4, y5] [] (HP τ) := by
  have hb := fun m : Nat => sz_b (f := fun a => tv (anP σ (τ.1 73) a)) (fun _ => tv_le) (n := m)
  refine ga_aload_n dX11_refine_55 rfl ?_
  refine ga_iconst dX11_refine_56 ⟨by decide, by decide⟩ ?_
  refine hg_putI 15 gfX11_168 dX11_refine_57 rfl rfl rfl ?_
  refine ga_iconst dX11_refine_60 ⟨by decide, by decide⟩ ?_
  refine ga_istore_n (lv2 := [_, _, _, _, _, _]) dX11_refine_61 (by decide) rfl rfl ?_
  refine (ga_loop 30 (fun a => ∀ y4 y5, ga_W 6 0 0 0 0 mX11_refine (fun v h => ∃ τ, exc RF σ τ ∧ rfk σ τ K ∧ τ.1 63 = ga_up (ga_up (σ.1 63) 14 K) 15 (sz (fun a => tv (anP σ (τ.1 73) a)) 30) ∧ v = none ∧ h = HP τ) ga_nox 62 [some (Vr 63), some (Vi y1), some (Vi y2), some (Vi (a : Int)), y4, y5] [] (HP (stI τ 63 (ga_up (τ.1 63) 15 (sz (fun a => tv (anP σ (τ.1 73) a)) a))))) ?_ ?_ 0 (Nat.zero_le _) _ _ : _)
  · intro y4 y5
    refine ga_iload_n dX11_refine_62 rfl ?_
    refine ga_bipush dX11_refine_63 ⟨by decide, by decide⟩ (by decide) ?_
    refine ga_icmp_ge (tgt := 163) dX11_refine_65 rfl (fun c_65 => ?_) (fun c_65 => ?_)
    · refine ga_ret (v := none) ?_ rfl (by decide) (by decide) ⟨dX11_refine_163, rfl⟩
      exact ⟨stI τ 63 (ga_up (τ.1 63) 15 (sz (fun a => tv (anP σ (τ.1 73) a)) 30)), exc_st hx (by decide), h, by rw [stI_at, h63]; rfl, rfl, rfl⟩
    · omega
  · intro a ha k y4 y5
    have h5 := hb a
    simp only [sz_s _ a] at k
    generalize hS : sz (fun a => tv (anP σ (τ.1 73) a)) a = S at k h5
    have LV : ∀ x : Int, bL (stI τ 63 (ga_up (τ.1 63) 15 S)) x ↔ bL σ x := fun x => by rw [cg_bL (core_exc (exc_st (q := 63) hx (by decide)) (by decide))]
    have T153 : ∀ (v : Int) (y4 y5 : Option ga_V), v = tv (anP σ (τ.1 73) a) → ga_W 6 0 0 0 0 mX11_refine (fun v h => ∃ τ, exc RF σ τ ∧ rfk σ τ K ∧ τ.1 63 = ga_up (ga_up (σ.1 63) 14 K) 15 (sz (fun a => tv (anP σ (τ.1 73) a)) 30) ∧ v = none ∧ h = HP τ) ga_nox 153 [some (Vr 63), some (Vi y1), some (Vi y2), some (Vi (a : Int)), y4, y5] [Vi v, Vi S, Vr 63] (HP (stI τ 63 (ga_up (τ.1 63) 15 S))) := by
      intro v y4 y5 hv
      have hv2 := tv_le (p := anP σ (τ.1 73) a)
      rw [← hv] at k hv2
      refine ga_iadd dX11_refine_153 rfl (⟨by omega, by omega⟩) ?_
      refine hg_putI 15 gfX11_168 dX11_refine_154 rfl rfl rfl ?_
      refine ga_iinc (z := ((a + 1 : Nat) : Int)) (lv2 := [_, _, _, _, _, _]) dX11_refine_157 (by decide) rfl rfl (by omega) (⟨by omega, by omega⟩) rfl ?_
      refine ga_goto (tgt := 62) dX11_refine_160 rfl ?_
      rw [stI_st, stI_at, ga_up_up]
      exact k _ _
    have T138 : ∀ (y5 : Option ga_V), ga_W 6 0 0 0 0 mX11_refine (fun v h => ∃ τ, exc RF σ τ ∧ rfk σ τ K ∧ τ.1 63 = ga_up (ga_up (σ.1 63) 14 K) 15 (sz (fun a => tv (anP σ (τ.1 73) a)) 30) ∧ v = none ∧ h = HP τ) ga_nox 138 [some (Vr 63), some (Vi y1), some (Vi y2), some (Vi (a : Int)), some (Vi (tv (anP σ (τ.1 73) a))), y5] [] (HP (stI τ 63 (ga_up (τ.1 63) 15 S))) := by
      intro y5
      have e9 : (stI τ 63 (ga_up (τ.1 63) 15 S)).1 63 15 = S := by rw [stI_at, ga_up_at]
      refine ga_aload_n dX11_refine_138 rfl ?_
      refine ga_dup dX11_refine_139 rfl ?_
      refine hg_getI 15 grX11_168 dX11_refine_140 rfl rfl rfl ?_
      refine ga_iload dX11_refine_143 rfl ?_
      refine ga_if_eq (tgt := 152) dX11_refine_145 rfl (fun c_145 => ?_) (fun c_145 => ?_)
      · rw [tv_eq0] at c_145
        rw [e9]
        refine ga_iconst dX11_refine_152 ⟨by decide, by decide⟩ ?_
        exact T153 0 _ _ (tvz c_145).symm
      · rw [tv_ne0] at c_145
        rw [e9]
        refine ga_iconst dX11_refine_148 ⟨by decide, by decide⟩ ?_
        refine ga_goto (tgt := 153) dX11_refine_149 rfl ?_
        exact T153 1 _ _ (tv1 c_145).symm
    refine ga_iload_n dX11_refine_62 rfl ?_
    refine ga_bipush dX11_refine_63 ⟨by decide, by decide⟩ (by decide) ?_
    refine ga_icmp_ge (tgt := 163) dX11_refine_65 rfl (fun c_65 => ?_) (fun c_65 => ?_)
    · omega
    · refine ga_iconst dX11_refine_68 ⟨by decide, by decide⟩ ?_
      refine ga_istore (lv2 := [_, _, _, _, _, _]) dX11_refine_69 (by decide) rfl rfl ?_
      refine ga_iconst dX11_refine_71 ⟨by decide, by decide⟩ ?_
      refine ga_istore (lv2 := [_, _, _, _, _, _]) dX11_refine_72 (by decide) rfl rfl ?_
      rcases Classical.em (bL σ a) with la | la
      · refine ga_eqlv (lv2 := [some (Vr 63), some (Vi y1), some (Vi y2), some (Vi (a : Int)), some (Vi (tv (∃ b : Nat, b < 0 ∧ ((b : Int) ≠ a ∧ bL σ b ∧ τ.1 73 b = τ.1 73 a)))), some (Vi ((0 : Nat) : Int))]) (by rw [tvz (fun ⟨b, b1, _⟩ => by omega)]; rfl) ?_
        refine (ga_loop 30 (fun b => ga_W 6 0 0 0 0 mX11_refine (fun v h => ∃ τ, exc RF σ τ ∧ rfk σ τ K ∧ τ.1 63 = ga_up (ga_up (σ.1 63) 14 K) 15 (sz (fun a => tv (anP σ (τ.1 73) a)) 30) ∧ v = none ∧ h = HP τ) ga_nox 74 [some (Vr 63), some (Vi y1), some (Vi y2), some (Vi (a : Int)), some (Vi (tv (∃ k : Nat, k < b ∧ ((k : Int) ≠ a ∧ bL σ k ∧ τ.1 73 k = τ.1 73 a)))), some (Vi (b : Int))] [] (HP (stI τ 63 (ga_up (τ.1 63) 15 S)))) ?_ ?_ 0 (Nat.zero_le _) : _)
        · rw [tv_congr (q := anP σ (τ.1 73) a) ⟨fun w => ⟨la, w⟩, fun w => w.2⟩]
          refine ga_iload dX11_refine_74 rfl ?_
          refine ga_bipush dX11_refine_76 ⟨by decide, by decide⟩ (by decide) ?_
          refine ga_icmp_ge (tgt := 138) dX11_refine_78 rfl (fun c_78 => ?_) (fun c_78 => ?_)
          · exact T138 _
          · omega
        · intro b hb k2
          have T130 : ∀ v : Int, v = tv (∃ k : Nat, k < b + 1 ∧ ((k : Int) ≠ a ∧ bL σ k ∧ τ.1 73 k = τ.1 73 a)) → ga_W 6 0 0 0 0 mX11_refine (fun v h => ∃ τ, exc RF σ τ ∧ rfk σ τ K ∧ τ.1 63 = ga_up (ga_up (σ.1 63) 14 K) 15 (sz (fun a => tv (anP σ (τ.1 73) a)) 30) ∧ v = none ∧ h = HP τ) ga_nox 130 [some (Vr 63), some (Vi y1), some (Vi y2), some (Vi (a : Int)), some (Vi (tv (∃ k : Nat, k < b ∧ ((k : Int) ≠ a ∧ bL σ k ∧ τ.1 73 k = τ.1 73 a)))), some (Vi (b : Int))] [Vi v] (HP (stI τ 63 (ga_up (τ.1 63) 15 S))) := by
            intro v hv
            refine ga_istore (lv2 := [_, _, _, _, _, _]) dX11_refine_130 (by decide) rfl rfl ?_
            refine ga_iinc (z := ((b + 1 : Nat) : Int)) (lv2 := [_, _, _, _, _, _]) dX11_refine_132 (by decide) rfl rfl (by omega) (⟨by omega, by omega⟩) rfl ?_
            refine ga_goto (tgt := 74) dX11_refine_135 rfl ?_
            rw [hv]
            exact k2
          have N129 : ¬ (∃ k : Nat, k < b ∧ ((k : Int) ≠ a ∧ bL σ k ∧ τ.1 73 k = τ.1 73 a)) → ¬ ((b : Int) ≠ a ∧ bL σ b ∧ τ.1 73 b = τ.1 73 a) → ga_W 6 0 0 0 0 mX11_refine (fun v h => ∃ τ, exc RF σ τ ∧ rfk σ τ K ∧ τ.1 63 = ga_up (ga_up (σ.1 63) 14 K) 15 (sz (fun a => tv (anP σ (τ.1 73) a)) 30) ∧ v = none ∧ h = HP τ) ga_nox 129 [some (Vr 63), some (Vi y1), some (Vi y2), some (Vi (a : Int)), some (Vi (tv (∃ k : Nat, k < b ∧ ((k : Int) ≠ a ∧ bL σ k ∧ τ.1 73 k = τ.1 73 a)))), some (Vi (b : Int))] [] (HP (stI τ 63 (ga_up (τ.1 63) 15 S))) := by
            intro n1 n2
            refine ga_iconst dX11_refine_129 ⟨by decide, by decide⟩ ?_
            exact T130 0 (tvz (fun z => (ex_s.mp z).elim n1 n2)).symm
          refine ga_iload dX11_refine_74 rfl ?_
          refine ga_bipush dX11_refine_76 ⟨by decide, by decide⟩ (by decide) ?_
          refine ga_icmp_ge (tgt := 138) dX11_refine_78 rfl (fun c_78 => ?_) (fun c_78 => ?_)
          · omega
          · refine ga_aload_n dX11_refine_81 rfl ?_
            refine ga_iload_n dX11_refine_82 rfl ?_
            refine hc_V (T_X11_isLive a _ (by omega) (by omega)) fX11_isLive rfl kX11_isLive lkX11_143 dX11_refine_83 rfl rfl rfl rfl rfl rfl rfl rfl ?_
            refine ga_if_eq (tgt := 138) dX11_refine_86 rfl (fun c_86 => ?_) (fun c_86 => ?_)
            · rw [tv_eq0, LV] at c_86
              exact absurd la c_86
            · refine ga_iload dX11_refine_89 rfl ?_
              refine ga_if_ne (tgt := 125) dX11_refine_91 rfl (fun c_91 => ?_) (fun c_91 => ?_)
              · rw [tv_ne0] at c_91
                refine ga_iconst dX11_refine_125 ⟨by decide, by decide⟩ ?_
                refine ga_goto (tgt := 130) dX11_refine_126 rfl ?_
                exact T130 1 (tv1 (ex_s.mpr (Or.inl c_91))).symm
              · rw [tv_eq0] at c_91
                refine ga_iload dX11_refine_94 rfl ?_
                refine ga_iload_n dX11_refine_96 rfl ?_
                refine ga_icmp_eq (tgt := 129) dX11_refine_97 rfl (fun c_97 => ?_) (fun c_97 => ?_)
                · exact N129 c_91 (fun z => z.1 c_97)
                · refine ga_aload_n dX11_refine_100 rfl ?_
                  refine ga_iload dX11_refine_101 rfl ?_
                  refine hc_V (T_X11_isLive b _ (by omega) (by omega)) fX11_isLive rfl kX11_isLive lkX11_143 dX11_refine_103 rfl rfl rfl rfl rfl rfl rfl rfl ?_
                  refine ga_if_eq (tgt := 129) dX11_refine_106 rfl (fun c_106 => ?_) (fun c_106 => ?_)
                  · rw [tv_eq0, LV] at c_106
                    exact N129 c_91 (fun z => c_106 z.2.1)
                  · rw [tv_ne0, LV] at c_106
                    refine ga_aload_n dX11_refine_109 rfl ?_
                    refine hg_getR grX11_39 dX11_refine_110 rfl rfl ?_
                    refine ga_iload dX11_refine_113 rfl ?_
                    refine hg_iald dX11_refine_115 rfl (by omega) (by omega) ?_
                    refine ga_aload_n dX11_refine_116 rfl ?_
                    refine hg_getR grX11_39 dX11_refine_117 rfl rfl ?_
                    refine ga_iload_n dX11_refine_120 rfl ?_
                    refine hg_iald dX11_refine_121 rfl (by omega) (by omega) ?_
                    refine ga_icmp_ne (tgt := 129) dX11_refine_122 rfl (fun c_122 => ?_) (fun c_122 => ?_)
                    · exact N129 c_91 (fun z => c_122 z.2.2)
                    · refine ga_iconst dX11_refine_125 ⟨by decide, by decide⟩ ?_
                      refine ga_goto (tgt := 130) dX11_refine_126 rfl ?_
                      exact T130 1 (tv1 (ex_s.mpr (Or.inr ⟨c_97, c_106, c_122⟩))).symm
      · have e0 : (0 : Int) = tv (anP σ (τ.1 73) a) := (tvz (fun w => la w.1)).symm
        refine ga_iload dX11_refine_74 rfl ?_
        refine ga_bipush dX11_refine_76 ⟨by decide, by decide⟩ (by decide) ?_
        refine ga_icmp_ge (tgt := 138) dX11_refine_78 rfl (fun c_78 => ?_) (fun c_78 => ?_)
        · exact absurd c_78 (by decide)
        · refine ga_aload_n dX11_refine_81 rfl ?_
          refine ga_iload_n dX11_refine_82 rfl ?_
          refine hc_V (T_X11_isLive a _ (by omega) (by omega)) fX11_isLive rfl kX11_isLive lkX11_143 dX11_refine_83 rfl rfl rfl rfl rfl rfl rfl rfl ?_
          refine ga_if_eq (tgt := 138) dX11_refine_86 rfl (fun c_86 => ?_) (fun c_86 => ?_)
          · rw [e0]
            exact T138 _
          · rw [tv_ne0, LV] at c_86
            exact absurd c_86 la
theorem T_X11_refine (σ : ga_S) (N D M E K : Nat) (hw : wfR σ N D M E) (hp : prtB σ) (hK : isK σ K) : ga_Mt 6 0 0 mX11_refine [Vr 63] (HP σ) (fun v h => ∃ τ, exc RF σ τ ∧ rfk σ τ K ∧ τ.1 63 = ga_up (ga_up (σ.1 63) 14 K) 15 (sz (fun a => tv (anP σ (τ.1 73) a)) 30) ∧ v = none ∧ h = HP τ) ga_nox := by
  have hK3 := isK_lt hK
  have bnd : ∀ k, 0 ≤ cntB σ k ∧ cntB σ k ≤ 140 := fun k => by
    have h1 := nF_b (L := bL σ) (R := (RDN σ k).1) (T := 60)
    have h2 := nF_b (L := bU σ) (R := (RDN σ k).2) (T := 80)
    unfold cntB
    omega
  have key : ∀ r k : Nat, k + r = K → ∀ (τ : ga_S) (y3 y4 y5 : Option ga_V), exc RF σ τ → rfk σ τ k → τ.1 63 = ga_up (σ.1 63) 14 k → ga_W 6 0 0 0 0 mX11_refine (fun v h => ∃ τ, exc RF σ τ ∧ rfk σ τ K ∧ τ.1 63 = ga_up (ga_up (σ.1 63) 14 K) 15 (sz (fun a => tv (anP σ (τ.1 73) a)) 30) ∧ v = none ∧ h = HP τ) ga_nox 12 [some (Vr 63), some (Vi (cntB σ k)), some (Vi 1), y3, y4, y5] [] (HP τ) := by
    intro r
    induction r with
    | zero =>
      intro k hk τ y3 y4 y5 hx h h63
      have ek : k = K := by omega
      subst ek
      have hc := core_exc hx (by decide)
      have b1 := bnd k
      have b2 := bnd (k + 1)
      have g1 := rfk_D hp hw.2.2.2.1 h
      have g2 := rfk_N hw.2.2.2.1 h
      refine ga_iload_n dX11_refine_12 rfl ?_
      refine ga_if_eq (tgt := 55) dX11_refine_13 rfl (fun c_13 => ?_) (fun c_13 => ?_)
      · exact absurd c_13 (by decide)
      · refine ga_aload_n dX11_refine_16 rfl ?_
        refine hc_VP (T_X11_round τ N D M E (by rw [cg_wfR hc]; exact hw) (by rw [cg_okN hc]; exact h.2.2.2.1) (by rw [cg_okD hc]; exact h.2.2.1)) fX11_round rfl kX11_round lkX11_165 dX11_refine_17 rfl rfl rfl rfl rfl rfl rfl rfl ?_
        rintro v h2 ⟨τ2, q1, q2, q3, q4, q5⟩
        rw [q4, q5]
        rw [cg_bL hc, cg_bU hc, cg_relD hc, cg_relN hc, cntB_is (relD_q σ _ _) (relN_q σ _ _) g1 g2]
        have hx2 : exc RF σ τ2 := exc_tr hx q1 (fun _ q => q) (by decide)
        have h2 : rfk σ τ2 k := by
          unfold rfk
          rw [q1.1 73 (by decide), q1.1 74 (by decide)]
          exact h
        refine ga_istore_n (lv2 := [_, _, _, _, _, _]) dX11_refine_20 (by decide) rfl rfl ?_
        refine ga_iload_n dX11_refine_21 rfl ?_
        refine ga_iload_n dX11_refine_22 rfl ?_
        refine ga_icmp_le (tgt := 30) dX11_refine_23 rfl (fun c_23 => ?_) (fun c_23 => ?_)
        · refine ga_iconst dX11_refine_30 ⟨by decide, by decide⟩ ?_
          refine ga_istore_n (lv2 := [_, _, _, _, _, _]) dX11_refine_31 (by decide) rfl rfl ?_
          refine ga_iload_n dX11_refine_32 rfl ?_
          refine ga_if_eq (tgt := 52) dX11_refine_33 rfl (fun c_33 => ?_) (fun c_33 => ?_)
          · refine ga_goto (tgt := 12) dX11_refine_52 rfl ?_
            refine ga_iload_n dX11_refine_12 rfl ?_
            refine ga_if_eq (tgt := 55) dX11_refine_13 rfl (fun c_13 => ?_) (fun c_13 => ?_)
            · exact W_refine_T σ τ2 k hx2 h2 (by rw [q1.1 63 (by decide)]; exact h63) _ _ _ _ _
            · exact absurd rfl c_13
          · exact absurd rfl c_33
        · exact absurd (show cntB σ k < cntB σ (k + 1) by omega) hK.2
    | succ r ih =>
      intro k hk τ y3 y4 y5 hx h h63
      have hc := core_exc hx (by decide)
      have b1 := bnd k
      have b2 := bnd (k + 1)
      have g1 := rfk_D hp hw.2.2.2.1 h
      have g2 := rfk_N hw.2.2.2.1 h
      have lt := hK.1 k (by omega)
      refine ga_iload_n dX11_refine_12 rfl ?_
      refine ga_if_eq (tgt := 55) dX11_refine_13 rfl (fun c_13 => ?_) (fun c_13 => ?_)
      · exact absurd c_13 (by decide)
      · refine ga_aload_n dX11_refine_16 rfl ?_
        refine hc_VP (T_X11_round τ N D M E (by rw [cg_wfR hc]; exact hw) (by rw [cg_okN hc]; exact h.2.2.2.1) (by rw [cg_okD hc]; exact h.2.2.1)) fX11_round rfl kX11_round lkX11_165 dX11_refine_17 rfl rfl rfl rfl rfl rfl rfl rfl ?_
        rintro v h2 ⟨τ2, q1, q2, q3, q4, q5⟩
        rw [q4, q5]
        rw [cg_bL hc, cg_bU hc, cg_relD hc, cg_relN hc, cntB_is (relD_q σ _ _) (relN_q σ _ _) g1 g2]
        rw [cg_bL hc, cg_relD hc] at q2
        rw [cg_bU hc, cg_relN hc] at q3
        have hx2 : exc RF σ τ2 := exc_tr hx q1 (fun _ q => q) (by decide)
        have e63 : τ2.1 63 = ga_up (σ.1 63) 14 k := by rw [q1.1 63 (by decide)]; exact h63
        have e14 : τ2.1 63 14 = k := by rw [e63, ga_up_at]
        refine ga_istore_n (lv2 := [_, _, _, _, _, _]) dX11_refine_20 (by decide) rfl rfl ?_
        refine ga_iload_n dX11_refine_21 rfl ?_
        refine ga_iload_n dX11_refine_22 rfl ?_
        refine ga_icmp_le (tgt := 30) dX11_refine_23 rfl (fun c_23 => ?_) (fun c_23 => ?_)
        · omega
        · refine ga_iconst dX11_refine_26 ⟨by decide, by decide⟩ ?_
          refine ga_goto (tgt := 31) dX11_refine_27 rfl ?_
          refine ga_istore_n (lv2 := [_, _, _, _, _, _]) dX11_refine_31 (by decide) rfl rfl ?_
          refine ga_iload_n dX11_refine_32 rfl ?_
          refine ga_if_eq (tgt := 52) dX11_refine_33 rfl (fun c_33 => ?_) (fun c_33 => ?_)
          · exact absurd c_33 (by decide)
          · have e14b : (stI (stI τ2 73 (cpF (τ2.1 73) (τ2.1 75) (60 : Nat))) 74 (cpF (τ2.1 74) (τ2.1 76) (80 : Nat))).1 63 14 = k := e14
            refine ga_aload_n dX11_refine_36 rfl ?_
            refine hc_Vv (T_X11_take τ2) fX11_take rfl kX11_take lkX11_155 dX11_refine_37 rfl rfl rfl rfl rfl rfl rfl rfl ?_
            refine ga_aload_n dX11_refine_40 rfl ?_
            refine ga_dup dX11_refine_41 rfl ?_
            refine hg_getI 14 grX11_162 dX11_refine_42 rfl rfl rfl ?_
            rw [e14b]
            refine ga_iconst dX11_refine_45 ⟨by decide, by decide⟩ ?_
            refine ga_iadd (z := ((k + 1 : Nat) : Int)) dX11_refine_46 (by omega) (⟨by omega, by omega⟩) ?_
            refine hg_putI 14 gfX11_162 dX11_refine_47 rfl rfl rfl ?_
            refine ga_iload_n dX11_refine_50 rfl ?_
            refine ga_istore_n (lv2 := [_, _, _, _, _, _]) dX11_refine_51 (by decide) rfl rfl ?_
            refine ga_goto (tgt := 12) dX11_refine_52 rfl ?_
            refine ih (k + 1) (by omega) _ _ _ _ (exc_st (exc_st (exc_st hx2 (by decide)) (by decide)) (by decide)) (rfk_mk (relD_q σ _ _) (relN_q σ _ _) (fun x x1 x2 => ?_) (fun x x1 x2 => ?_) g1 g2) ?_
            · show cpF (τ2.1 73) (τ2.1 75) 60 x = _
              rw [cpF_in x1 x2]
              exact q2 x x1 x2
            · show cpF (τ2.1 74) (τ2.1 76) 80 x = _
              rw [cpF_in x1 x2]
              exact q3 x x1 x2
            · show ga_up (τ2.1 63) 14 ((k + 1 : Nat) : Int) = _
              rw [e63, ga_up_up]
  have G1 : ∀ x u : Int, 0 ≤ x → x < 60 → 0 ≤ u → u < 60 → bL σ x → bL σ u → ((RDN σ 0).1 x = (RDN σ 0).1 u ↔ kdE σ x u) := fun x u _ _ _ _ _ _ => Iff.rfl
  have G2 : ∀ x u : Int, 0 ≤ x → x < 80 → 0 ≤ u → u < 80 → bU σ x → bU σ u → ((RDN σ 0).2 x = (RDN σ 0).2 u ↔ ptE σ x u) := fun x u _ _ _ _ _ _ => by
    show σ.1 64 x + 1 = σ.1 64 u + 1 ↔ σ.1 64 x = σ.1 64 u
    omega
  refine ga_meth [some (Vr 63), none, none, none, none, none] rfl rfl (by decide +kernel) (Nat.le_of_ble_eq_true rfl) rfl ?_
  refine ga_aload_n dX11_refine_0 rfl ?_
  refine hc_VP (T_X11_begin σ N D M E hw) fX11_begin rfl kX11_begin lkX11_158 dX11_refine_1 rfl rfl rfl rfl rfl rfl rfl rfl ?_
  rintro v h2 ⟨τ, q1, q2, q3, q4, q5⟩
  rw [q4, q5, cntB_is (kdE_q σ) (ptE_q σ) G1 G2]
  refine ga_istore_n (lv2 := [_, _, _, _, _, _]) dX11_refine_4 (by decide) rfl rfl ?_
  refine ga_aload_n dX11_refine_5 rfl ?_
  refine ga_iconst dX11_refine_6 ⟨by decide, by decide⟩ ?_
  refine hg_putI 14 gfX11_162 dX11_refine_7 rfl rfl rfl ?_
  refine ga_iconst dX11_refine_10 ⟨by decide, by decide⟩ ?_
  refine ga_istore_n (lv2 := [_, _, _, _, _, _]) dX11_refine_11 (by decide) rfl rfl ?_
  exact key K 0 (by omega) _ _ _ _ (exc_st (exc_m q1 (by decide)) (by decide)) (rfk_mk (τ := stI τ 63 (ga_up (τ.1 63) 14 0)) (kdE_q σ) (ptE_q σ) q2 q3 G1 G2) (by rw [stI_at, q1.1 63 (by decide)]; rfl)
