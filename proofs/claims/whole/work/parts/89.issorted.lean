-- the reference: isSorted
/-- what is told of a net by the pair looked at -/
noncomputable def tcF (σ : ga_S) (d e : Int) (x : Int) : Int := hrn σ (if x < 40 then d else e) (x % 40) 4
theorem W_isSorted_3 (σ τ : ga_S) (p : Nat) (d e : Int) (ch : Int → Int) (hx : exc [84, 85, 87] σ τ) (h1 : (∀ j : Int, j < 80 * ((p : Int) + 1) → τ.1 84 j = σ.1 84 j)) (h2 : ∀ a : Int, 0 ≤ a → a < 80 → bU σ a → τ.1 84 (80 * ((p : Int) + 1) + a) = lsM (bU σ) (SE σ ch ((p : Int) + 1)) 80 a) (h3 : (∀ r : Int, 0 ≤ r → r < 80 → τ.1 87 r = cnS σ (SE σ ch ((p : Int) + 1)) r 80)) (y4 y5 y6 : Int) (y7 : Option ga_V) : ga_W 3 0 0 0 0 mX11_isSorted (fun v h => ∃ τ, exc [84, 85, 87] σ τ ∧ (∀ j : Int, j < 80 * ((p : Int) + 1) → τ.1 84 j = σ.1 84 j) ∧ (∀ a : Int, 0 ≤ a → a < 80 → bU σ a → τ.1 84 (80 * ((p : Int) + 1) + a) = lsM (bU σ) (SE σ ch ((p : Int) + 1)) 80 a) ∧ v = some (Vi (tv (EV σ ch ((p : Int) + 1)))) ∧ h = HP τ) ga_nox 257 [some (Vr 63), some (Vi (p : Int)), some (Vi d), some (Vi e), some (Vi y4), some (Vi y5), some (Vi y6), y7] [] (HP τ) := by
  refine ga_iconst dX11_isSorted_257 ⟨by decide, by decide⟩ ?_
  refine ga_istore (lv2 := [_, _, _, _, _, _, _, _]) dX11_isSorted_258 (by decide) rfl rfl ?_
  refine ga_iconst dX11_isSorted_260 ⟨by decide, by decide⟩ ?_
  refine ga_istore (lv2 := [_, _, _, _, _, _, _, _]) dX11_isSorted_261 (by decide) rfl rfl ?_
  have eE := tv_congr (EV_cn (σ := σ) (ch := ch) (p := (p : Int) + 1))
  rw [eE]
  refine ga_eqlv (lv2 := [some (Vr 63), some (Vi (p : Int)), some (Vi d), some (Vi e), some (Vi y4), some (Vi y5), some (Vi (tv (∀ r : Nat, r < 0 → cnS σ (SE σ ch ((p : Int) + 1)) r 80 = 0))), some (Vi ((0 : Nat) : Int))]) (by rw [tv1 (fun k hk => by omega)]; rfl) ?_
  refine (ga_loop 80 (fun i => ga_W 3 0 0 0 0 mX11_isSorted (fun v h => ∃ τ, exc [84, 85, 87] σ τ ∧ (∀ j : Int, j < 80 * ((p : Int) + 1) → τ.1 84 j = σ.1 84 j) ∧ (∀ a : Int, 0 ≤ a → a < 80 → bU σ a → τ.1 84 (80 * ((p : Int) + 1) + a) = lsM (bU σ) (SE σ ch ((p : Int) + 1)) 80 a) ∧ v = some (Vi (tv (∀ r : Nat, r < 80 → cnS σ (SE σ ch ((p : Int) + 1)) r 80 = 0))) ∧ h = HP τ) ga_nox 263 [some (Vr 63), some (Vi (p : Int)), some (Vi d), some (Vi e), some (Vi y4), some (Vi y5), some (Vi (tv (∀ r : Nat, r < i → cnS σ (SE σ ch ((p : Int) + 1)) r 80 = 0))), some (Vi (i : Int))] [] (HP τ)) ?_ ?_ 0 (Nat.zero_le _) : _)
  · refine ga_iload dX11_isSorted_263 rfl ?_
    refine ga_bipush dX11_isSorted_265 ⟨by decide, by decide⟩ (by decide) ?_
    refine ga_icmp_ge (tgt := 298) dX11_isSorted_267 rfl (fun c_267 => ?_) (fun c_267 => ?_)
    · refine ga_iload dX11_isSorted_298 rfl ?_
      refine ga_ret (v := some _) ?_ rfl (by decide) (by decide) ⟨dX11_isSorted_300, _, rfl, tv_nb⟩
      exact ⟨τ, hx, h1, h2, rfl, rfl⟩
    · omega
  · intro i hi k
    have T290 : ∀ v : Int, v = tv (∀ r : Nat, r < i + 1 → cnS σ (SE σ ch ((p : Int) + 1)) r 80 = 0) → ga_W 3 0 0 0 0 mX11_isSorted (fun v h => ∃ τ, exc [84, 85, 87] σ τ ∧ (∀ j : Int, j < 80 * ((p : Int) + 1) → τ.1 84 j = σ.1 84 j) ∧ (∀ a : Int, 0 ≤ a → a < 80 → bU σ a → τ.1 84 (80 * ((p : Int) + 1) + a) = lsM (bU σ) (SE σ ch ((p : Int) + 1)) 80 a) ∧ v = some (Vi (tv (∀ r : Nat, r < 80 → cnS σ (SE σ ch ((p : Int) + 1)) r 80 = 0))) ∧ h = HP τ) ga_nox 290 [some (Vr 63), some (Vi (p : Int)), some (Vi d), some (Vi e), some (Vi y4), some (Vi y5), some (Vi (tv (∀ r : Nat, r < i → cnS σ (SE σ ch ((p : Int) + 1)) r 80 = 0))), some (Vi (i : Int))] [Vi v] (HP τ) := by
      intro v hv
      refine ga_istore (lv2 := [_, _, _, _, _, _, _, _]) dX11_isSorted_290 (by decide) rfl rfl ?_
      refine ga_iinc (z := ((i + 1 : Nat) : Int)) (lv2 := [_, _, _, _, _, _, _, _]) dX11_isSorted_292 (by decide) rfl rfl (by omega) (⟨by omega, by omega⟩) rfl ?_
      refine ga_goto (tgt := 263) dX11_isSorted_295 rfl ?_
      rw [hv]
      exact k
    have hc := h3 i (by omega) (by omega)
    refine ga_iload dX11_isSorted_263 rfl ?_
    refine ga_bipush dX11_isSorted_265 ⟨by decide, by decide⟩ (by decide) ?_
    refine ga_icmp_ge (tgt := 298) dX11_isSorted_267 rfl (fun c_267 => ?_) (fun c_267 => ?_)
    · omega
    · refine ga_iload dX11_isSorted_270 rfl ?_
      refine ga_if_eq (tgt := 289) dX11_isSorted_272 rfl (fun c_272 => ?_) (fun c_272 => ?_)
      · rw [tv_eq0] at c_272
        refine ga_iconst dX11_isSorted_289 ⟨by decide, by decide⟩ ?_
        exact T290 0 (tvz (fun z => c_272 (all_s.mp z).1)).symm
      · rw [tv_ne0] at c_272
        refine ga_aload_n dX11_isSorted_275 rfl ?_
        refine hg_getR grX11_81 dX11_isSorted_276 rfl rfl ?_
        refine ga_iload dX11_isSorted_279 rfl ?_
        refine hg_iald dX11_isSorted_281 rfl (by omega) (by omega) ?_
        refine ga_if_ne (tgt := 289) dX11_isSorted_282 rfl (fun c_282 => ?_) (fun c_282 => ?_)
        · rw [hc] at c_282
          refine ga_iconst dX11_isSorted_289 ⟨by decide, by decide⟩ ?_
          exact T290 0 (tvz (fun z => c_282 (all_s.mp z).2)).symm
        · rw [hc] at c_282
          refine ga_iconst dX11_isSorted_285 ⟨by decide, by decide⟩ ?_
          refine ga_goto (tgt := 290) dX11_isSorted_286 rfl ?_
          exact T290 1 (tv1 (all_s.mpr ⟨c_272, c_282⟩)).symm
theorem W_isSorted_2 (σ : ga_S) (p : Nat) (d e : Int) (ch : Int → Int) (hp : p < 30)
    (hE : ∀ x y : Int, 0 ≤ x → x < 80 → 0 ≤ y → y < 80 → bU σ x → bU σ y → ((SE σ ch ((p : Int) + 1)) x y ↔ σ.1 84 (80 * p + x) = σ.1 84 (80 * p + y) ∧ tcF σ d e x = tcF σ d e y)) (hu : ∀ a : Int, 0 ≤ a → a < 80 → σ.1 86 a = tv (bU σ a))
    (τ : ga_S) (hx : exc [84, 85, 87] σ τ) (ht : (∀ x : Int, 0 ≤ x → x < 80 → bU σ x → τ.1 85 x = tcF σ d e x)) (h1 : (∀ j : Int, j < 80 * ((p : Int) + 1) → τ.1 84 j = σ.1 84 j)) (h3 : ∀ r : Int, 0 ≤ r → r < 80 → τ.1 87 r = 0) (y5 y6 y7 : Option ga_V) (y4 : Int) : ga_W 3 0 0 0 0 mX11_isSorted (fun v h => ∃ τ, exc [84, 85, 87] σ τ ∧ (∀ j : Int, j < 80 * ((p : Int) + 1) → τ.1 84 j = σ.1 84 j) ∧ (∀ a : Int, 0 ≤ a → a < 80 → bU σ a → τ.1 84 (80 * ((p : Int) + 1) + a) = lsM (bU σ) (SE σ ch ((p : Int) + 1)) 80 a) ∧ v = some (Vi (tv (EV σ ch ((p : Int) + 1)))) ∧ h = HP τ) ga_nox 66 [some (Vr 63), some (Vi (p : Int)), some (Vi d), some (Vi e), some (Vi y4), y5, y6, y7] [] (HP τ) := by
  have q := SE_q σ ch ((p : Int) + 1)
  refine ga_bipush dX11_isSorted_66 ⟨by decide, by decide⟩ (by decide) ?_
  refine ga_iload_n dX11_isSorted_68 rfl ?_
  refine ga_imul (z := (80 * (p : Int))) dX11_isSorted_69 (by omega) (⟨by omega, by omega⟩) ?_
  refine ga_istore (lv2 := [_, _, _, _, _, _, _, _]) dX11_isSorted_70 (by decide) rfl rfl ?_
  refine ga_bipush dX11_isSorted_72 ⟨by decide, by decide⟩ (by decide) ?_
  refine ga_iload_n dX11_isSorted_74 rfl ?_
  refine ga_iconst dX11_isSorted_75 ⟨by decide, by decide⟩ ?_
  refine ga_iadd (z := ((p : Int) + 1)) dX11_isSorted_76 (by omega) (⟨by omega, by omega⟩) ?_
  refine ga_imul (z := (80 * ((p : Int) + 1))) dX11_isSorted_77 (by omega) (⟨by omega, by omega⟩) ?_
  refine ga_istore (lv2 := [_, _, _, _, _, _, _, _]) dX11_isSorted_78 (by decide) rfl rfl ?_
  refine ga_iconst dX11_isSorted_80 ⟨by decide, by decide⟩ ?_
  refine ga_istore (lv2 := [_, _, _, _, _, _, _, _]) dX11_isSorted_81 (by decide) rfl rfl ?_
  refine (ga_loop 80 (fun a => ∀ τ y7, exc [84, 85, 87] σ τ → (∀ x : Int, 0 ≤ x → x < 80 → bU σ x → τ.1 85 x = tcF σ d e x) → (∀ j : Int, j < 80 * ((p : Int) + 1) → τ.1 84 j = σ.1 84 j) → (∀ x : Int, 0 ≤ x → x < a → bU σ x → τ.1 84 (80 * ((p : Int) + 1) + x) = lsM (bU σ) (SE σ ch ((p : Int) + 1)) 80 x) → (∀ r : Int, 0 ≤ r → r < 80 → τ.1 87 r = cnS σ (SE σ ch ((p : Int) + 1)) r a) → ga_W 3 0 0 0 0 mX11_isSorted (fun v h => ∃ τ, exc [84, 85, 87] σ τ ∧ (∀ j : Int, j < 80 * ((p : Int) + 1) → τ.1 84 j = σ.1 84 j) ∧ (∀ a : Int, 0 ≤ a → a < 80 → bU σ a → τ.1 84 (80 * ((p : Int) + 1) + a) = lsM (bU σ) (SE σ ch ((p : Int) + 1)) 80 a) ∧ v = some (Vi (tv (EV σ ch ((p : Int) + 1)))) ∧ h = HP τ) ga_nox 83 [some (Vr 63), some (Vi (p : Int)), some (Vi d), some (Vi e), some (Vi (80 * (p : Int))), some (Vi (80 * ((p : Int) + 1))), some (Vi (a : Int)), y7] [] (HP τ)) ?_ ?_ 0 (Nat.zero_le _) τ y7 hx ht h1 (fun x x1 x2 => by omega) h3 : _)
  · intro τ y7 hx ht h1 h2 h3
    refine ga_iload dX11_isSorted_83 rfl ?_
    refine ga_bipush dX11_isSorted_85 ⟨by decide, by decide⟩ (by decide) ?_
    refine ga_icmp_ge (tgt := 257) dX11_isSorted_87 rfl (fun c_87 => ?_) (fun c_87 => ?_)
    · exact W_isSorted_3 σ τ p d e ch hx h1 h2 h3 _ _ _ _
    · omega
  · intro a ha k τ y7 hx ht h1 h2 h3
    have e86 := hx.1 86 (by decide)
    have hua : τ.1 86 a = tv (bU σ a) := by rw [e86]; exact hu a (by omega) (by omega)
    refine ga_iload dX11_isSorted_83 rfl ?_
    refine ga_bipush dX11_isSorted_85 ⟨by decide, by decide⟩ (by decide) ?_
    refine ga_icmp_ge (tgt := 257) dX11_isSorted_87 rfl (fun c_87 => ?_) (fun c_87 => ?_)
    · omega
    · have x1 : exc [84, 85, 87] σ (stI τ 84 (ga_up (τ.1 84) (80 * ((p : Int) + 1) + a) a)) := exc_st hx (by decide)
      have L1 : ∀ j : Int, j < 80 * ((p : Int) + 1) → (stI τ 84 (ga_up (τ.1 84) (80 * ((p : Int) + 1) + a) a)).1 84 j = σ.1 84 j := fun j hj => by rw [stI_at, ga_up_ne _ _ (by omega)]; exact h1 j hj
      have N1 : ∀ x : Int, 0 ≤ x → x < a → bU σ x → (stI τ 84 (ga_up (τ.1 84) (80 * ((p : Int) + 1) + a) a)).1 84 (80 * ((p : Int) + 1) + x) = lsM (bU σ) (SE σ ch ((p : Int) + 1)) 80 x := fun x a1 a2 a3 => by rw [stI_at, ga_up_ne _ _ (by omega)]; exact h2 x a1 a2 a3
      refine ga_aload_n dX11_isSorted_90 rfl ?_
      refine hg_getR grX11_72 dX11_isSorted_91 rfl rfl ?_
      refine ga_iload dX11_isSorted_94 rfl ?_
      refine ga_iload dX11_isSorted_96 rfl ?_
      refine ga_iadd dX11_isSorted_98 rfl (⟨by omega, by omega⟩) ?_
      refine ga_iload dX11_isSorted_99 rfl ?_
      refine hg_iast dX11_isSorted_101 rfl (by omega) (by omega) ?_
      refine ga_aload_n dX11_isSorted_102 rfl ?_
      refine hg_getR grX11_78 dX11_isSorted_103 rfl rfl ?_
      refine ga_iload dX11_isSorted_106 rfl ?_
      refine hg_zald dX11_isSorted_108 rfl (by omega) (by omega) ?_
      refine ga_if_ne (tgt := 115) dX11_isSorted_109 rfl (fun c_109 => ?_) (fun c_109 => ?_)
      · -- used
        have ua : bU σ a := by
          have c9 : ¬ τ.1 86 a = 0 := c_109
          rw [hua] at c9
          exact tv_ne0.mp c9
        have oa := lst_at (T := 80) q (a := a) (by omega) (by omega) ua
        -- the count, when the net's number stands
        have R221 : ∀ (τ : ga_S) (b : Int), exc [84, 85, 87] σ τ → (∀ x : Int, 0 ≤ x → x < 80 → bU σ x → τ.1 85 x = tcF σ d e x) → (∀ j : Int, j < 80 * ((p : Int) + 1) → τ.1 84 j = σ.1 84 j) → (∀ x : Int, 0 ≤ x → x < a + 1 → bU σ x → τ.1 84 (80 * ((p : Int) + 1) + x) = lsM (bU σ) (SE σ ch ((p : Int) + 1)) 80 x) → (∀ r : Int, 0 ≤ r → r < 80 → τ.1 87 r = cnS σ (SE σ ch ((p : Int) + 1)) r a) → ga_W 3 0 0 0 0 mX11_isSorted (fun v h => ∃ τ, exc [84, 85, 87] σ τ ∧ (∀ j : Int, j < 80 * ((p : Int) + 1) → τ.1 84 j = σ.1 84 j) ∧ (∀ a : Int, 0 ≤ a → a < 80 → bU σ a → τ.1 84 (80 * ((p : Int) + 1) + a) = lsM (bU σ) (SE σ ch ((p : Int) + 1)) 80 a) ∧ v = some (Vi (tv (EV σ ch ((p : Int) + 1)))) ∧ h = HP τ) ga_nox 221 [some (Vr 63), some (Vi (p : Int)), some (Vi d), some (Vi e), some (Vi (80 * (p : Int))), some (Vi (80 * ((p : Int) + 1))), some (Vi (a : Int)), some (Vi b)] [] (HP τ) := by
          intro τ b hx ht h1 h2 h3
          have e1 := h2 a (by omega) (by omega) ua
          have e2 := e1
          rw [lsM_y ua] at e2
          have e3 := h3 (τ.1 84 (80 * ((p : Int) + 1) + a)) (by omega) (by omega)
          have cb := cnS_b σ (SE σ ch ((p : Int) + 1)) (τ.1 84 (80 * ((p : Int) + 1) + a)) a
          have T249 : ∀ v : Int, v = (if (a : Int) < 40 then 1 else -1) → ga_W 3 0 0 0 0 mX11_isSorted (fun v h => ∃ τ, exc [84, 85, 87] σ τ ∧ (∀ j : Int, j < 80 * ((p : Int) + 1) → τ.1 84 j = σ.1 84 j) ∧ (∀ a : Int, 0 ≤ a → a < 80 → bU σ a → τ.1 84 (80 * ((p : Int) + 1) + a) = lsM (bU σ) (SE σ ch ((p : Int) + 1)) 80 a) ∧ v = some (Vi (tv (EV σ ch ((p : Int) + 1)))) ∧ h = HP τ) ga_nox 249 [some (Vr 63), some (Vi (p : Int)), some (Vi d), some (Vi e), some (Vi (80 * (p : Int))), some (Vi (80 * ((p : Int) + 1))), some (Vi (a : Int)), some (Vi b)] [Vi v, Vi (τ.1 87 (τ.1 84 (80 * ((p : Int) + 1) + a))), Vi (τ.1 84 (80 * ((p : Int) + 1) + a)), Vr 87] (HP τ) := by
            intro v hv
            have vb : v = 1 ∨ v = -1 := by rw [hv]; split <;> simp
            refine ga_iadd dX11_isSorted_249 rfl (⟨by omega, by omega⟩) ?_
            refine hg_iast dX11_isSorted_250 rfl (by omega) (by omega) ?_
            refine ga_iinc (z := ((a + 1 : Nat) : Int)) (lv2 := [_, _, _, _, _, _, _, _]) dX11_isSorted_251 (by decide) rfl rfl (by omega) (⟨by omega, by omega⟩) rfl ?_
            refine ga_goto (tgt := 83) dX11_isSorted_254 rfl ?_
            refine k _ _ (exc_st hx (by decide)) ht h1 h2 (fun r r1 r2 => ?_)
            rw [stI_at, cnS_s]
            by_cases w : r = τ.1 84 (80 * ((p : Int) + 1) + a)
            · rw [w, ga_up_at, tif1 ⟨ua, e1.symm⟩, e3, hv]
            · rw [ga_up_ne _ _ w, tif0 (fun z => w (by rw [← z.2]; exact e1.symm)), h3 r r1 r2, Int.add_zero]
          refine ga_aload_n dX11_isSorted_221 rfl ?_
          refine hg_getR grX11_81 dX11_isSorted_222 rfl rfl ?_
          refine ga_aload_n dX11_isSorted_225 rfl ?_
          refine hg_getR grX11_72 dX11_isSorted_226 rfl rfl ?_
          refine ga_iload dX11_isSorted_229 rfl ?_
          refine ga_iload dX11_isSorted_231 rfl ?_
          refine ga_iadd (z := (80 * ((p : Int) + 1) + (a : Int))) dX11_isSorted_233 (by omega) (⟨by omega, by omega⟩) ?_
          refine hg_iald dX11_isSorted_234 rfl (by omega) (by omega) ?_
          refine ga_dup2 dX11_isSorted_235 rfl rfl ?_
          refine hg_iald dX11_isSorted_236 rfl (by omega) (by omega) ?_
          refine ga_iload dX11_isSorted_237 rfl ?_
          refine ga_bipush dX11_isSorted_239 ⟨by decide, by decide⟩ (by decide) ?_
          refine ga_icmp_ge (tgt := 248) dX11_isSorted_241 rfl (fun c_241 => ?_) (fun c_241 => ?_)
          · refine ga_iconst dX11_isSorted_248 ⟨by decide, by decide⟩ ?_
            exact T249 (-1) (by rw [if_neg (by omega)])
          · refine ga_iconst dX11_isSorted_244 ⟨by decide, by decide⟩ ?_
            refine ga_goto (tgt := 249) dX11_isSorted_245 rfl ?_
            exact T249 1 (by rw [if_pos (by omega)])
        refine ga_iconst dX11_isSorted_115 ⟨by decide, by decide⟩ ?_
        refine ga_istore (lv2 := [_, _, _, _, _, _, _, _]) dX11_isSorted_116 (by decide) rfl rfl ?_
        refine (ga_loop a (fun b => ∀ τ, exc [84, 85, 87] σ τ → (∀ x : Int, 0 ≤ x → x < 80 → bU σ x → τ.1 85 x = tcF σ d e x) → (∀ j : Int, j < 80 * ((p : Int) + 1) → τ.1 84 j = σ.1 84 j) → (∀ x : Int, 0 ≤ x → x < a → bU σ x → τ.1 84 (80 * ((p : Int) + 1) + x) = lsM (bU σ) (SE σ ch ((p : Int) + 1)) 80 x) → (∀ r : Int, 0 ≤ r → r < 80 → τ.1 87 r = cnS σ (SE σ ch ((p : Int) + 1)) r a) → τ.1 84 (80 * ((p : Int) + 1) + a) = upF (bU σ) (SE σ ch ((p : Int) + 1)) 80 a b → ga_W 3 0 0 0 0 mX11_isSorted (fun v h => ∃ τ, exc [84, 85, 87] σ τ ∧ (∀ j : Int, j < 80 * ((p : Int) + 1) → τ.1 84 j = σ.1 84 j) ∧ (∀ a : Int, 0 ≤ a → a < 80 → bU σ a → τ.1 84 (80 * ((p : Int) + 1) + a) = lsM (bU σ) (SE σ ch ((p : Int) + 1)) 80 a) ∧ v = some (Vi (tv (EV σ ch ((p : Int) + 1)))) ∧ h = HP τ) ga_nox 118 [some (Vr 63), some (Vi (p : Int)), some (Vi d), some (Vi e), some (Vi (80 * (p : Int))), some (Vi (80 * ((p : Int) + 1))), some (Vi (a : Int)), some (Vi (b : Int))] [] (HP τ)) ?_ ?_ 0 (Nat.zero_le _) _ x1 ht L1 N1 h3 (by rw [stI_at, ga_up_at]; exact (upF_0 q (by omega) (by omega) ua).symm) : _)
        · intro τ hx ht h1 h2 h3 hv
          refine ga_iload dX11_isSorted_118 rfl ?_
          refine ga_iload dX11_isSorted_120 rfl ?_
          refine ga_icmp_ge (tgt := 221) dX11_isSorted_122 rfl (fun c_122 => ?_) (fun c_122 => ?_)
          · refine R221 τ _ hx ht h1 (fun x a1 a2 a3 => ?_) h3
            by_cases w : x = a
            · rw [w, hv]
              exact upF_end q (by omega) (by omega) ua
            · exact h2 x a1 (by omega) a3
          · omega
        · intro b hb k2 τ hx ht h1 h2 h3 hv
          have e86 := hx.1 86 (by decide)
          have hub : τ.1 86 b = tv (bU σ b) := by rw [e86]; exact hu b (by omega) (by omega)
          have T214 : ∀ w : Int, w = upF (bU σ) (SE σ ch ((p : Int) + 1)) 80 a ((b + 1 : Nat) : Int) → ga_W 3 0 0 0 0 mX11_isSorted (fun v h => ∃ τ, exc [84, 85, 87] σ τ ∧ (∀ j : Int, j < 80 * ((p : Int) + 1) → τ.1 84 j = σ.1 84 j) ∧ (∀ a : Int, 0 ≤ a → a < 80 → bU σ a → τ.1 84 (80 * ((p : Int) + 1) + a) = lsM (bU σ) (SE σ ch ((p : Int) + 1)) 80 a) ∧ v = some (Vi (tv (EV σ ch ((p : Int) + 1)))) ∧ h = HP τ) ga_nox 214 [some (Vr 63), some (Vi (p : Int)), some (Vi d), some (Vi e), some (Vi (80 * (p : Int))), some (Vi (80 * ((p : Int) + 1))), some (Vi (a : Int)), some (Vi (b : Int))] [Vi w, Vi (80 * ((p : Int) + 1) + (a : Int)), Vr 84] (HP τ) := by
            intro w hw
            refine hg_iast dX11_isSorted_214 rfl (by omega) (by omega) ?_
            refine ga_iinc (z := ((b + 1 : Nat) : Int)) (lv2 := [_, _, _, _, _, _, _, _]) dX11_isSorted_215 (by decide) rfl rfl (by omega) (⟨by omega, by omega⟩) rfl ?_
            refine ga_goto (tgt := 118) dX11_isSorted_218 rfl ?_
            refine k2 _ (exc_st hx (by decide)) ht (fun j hj => ?_) (fun x a1 a2 a3 => ?_) h3 ?_
            · rw [stI_at, ga_up_ne _ _ (by omega)]; exact h1 j hj
            · rw [stI_at, ga_up_ne _ _ (by omega)]; exact h2 x a1 a2 a3
            · rw [stI_at, ga_up_at]; exact hw
          refine ga_iload dX11_isSorted_118 rfl ?_
          refine ga_iload dX11_isSorted_120 rfl ?_
          refine ga_icmp_ge (tgt := 221) dX11_isSorted_122 rfl (fun c_122 => ?_) (fun c_122 => ?_)
          · omega
          · refine ga_aload_n dX11_isSorted_125 rfl ?_
            refine hg_getR grX11_72 dX11_isSorted_126 rfl rfl ?_
            refine ga_iload dX11_isSorted_129 rfl ?_
            refine ga_iload dX11_isSorted_131 rfl ?_
            refine ga_iadd (z := (80 * ((p : Int) + 1) + (a : Int))) dX11_isSorted_133 (by omega) (⟨by omega, by omega⟩) ?_
            refine hg_iald dX11_isSorted_134 rfl (by omega) (by omega) ?_
            refine ga_iload dX11_isSorted_135 rfl ?_
            refine ga_icmp_ne (tgt := 221) dX11_isSorted_137 rfl (fun c_137 => ?_) (fun c_137 => ?_)
            · -- found before
              refine R221 τ _ hx ht h1 (fun x a1 a2 a3 => ?_) h3
              by_cases w : x = a
              · rw [w, hv, lsM_y ua]
                rw [hv] at c_137
                unfold upF at c_137 ⊢
                by_cases q4 : lst (bU σ) (SE σ ch ((p : Int) + 1)) 80 a < (b : Int)
                · rw [if_pos q4]
                · rw [if_neg q4] at c_137
                  exact absurd rfl c_137
              · exact h2 x a1 (by omega) a3
            · have NO : ¬ (bU σ b ∧ (SE σ ch ((p : Int) + 1)) b a) → ga_W 3 0 0 0 0 mX11_isSorted (fun v h => ∃ τ, exc [84, 85, 87] σ τ ∧ (∀ j : Int, j < 80 * ((p : Int) + 1) → τ.1 84 j = σ.1 84 j) ∧ (∀ a : Int, 0 ≤ a → a < 80 → bU σ a → τ.1 84 (80 * ((p : Int) + 1) + a) = lsM (bU σ) (SE σ ch ((p : Int) + 1)) 80 a) ∧ v = some (Vi (tv (EV σ ch ((p : Int) + 1)))) ∧ h = HP τ) ga_nox 212 [some (Vr 63), some (Vi (p : Int)), some (Vi d), some (Vi e), some (Vi (80 * (p : Int))), some (Vi (80 * ((p : Int) + 1))), some (Vi (a : Int)), some (Vi (b : Int))] [Vi (80 * ((p : Int) + 1) + (a : Int)), Vr 84] (HP τ) := by
                intro hn
                refine ga_iload dX11_isSorted_212 rfl ?_
                refine T214 _ ?_
                have e9 := upF_no (T := 80) (b := b) q (by omega) (by omega) ua (fun w => hn ⟨w.1, w.2.1⟩) (by omega) (by omega)
                rw [← hv, c_137] at e9
                exact e9.symm
              refine ga_aload_n dX11_isSorted_140 rfl ?_
              refine hg_getR grX11_72 dX11_isSorted_141 rfl rfl ?_
              refine ga_iload dX11_isSorted_144 rfl ?_
              refine ga_iload dX11_isSorted_146 rfl ?_
              refine ga_iadd (z := (80 * ((p : Int) + 1) + (a : Int))) dX11_isSorted_148 (by omega) (⟨by omega, by omega⟩) ?_
              refine ga_aload_n dX11_isSorted_149 rfl ?_
              refine hg_getR grX11_78 dX11_isSorted_150 rfl rfl ?_
              refine ga_iload dX11_isSorted_153 rfl ?_
              refine hg_zald dX11_isSorted_155 rfl (by omega) (by omega) ?_
              refine ga_if_eq (tgt := 212) dX11_isSorted_156 rfl (fun c_156 => ?_) (fun c_156 => ?_)
              · rw [hub, tv_eq0] at c_156
                exact NO (fun z => c_156 z.1)
              · rw [hub, tv_ne0] at c_156
                have E9 := hE b a (by omega) (by omega) (by omega) (by omega) c_156 ua
                refine ga_aload_n dX11_isSorted_159 rfl ?_
                refine hg_getR grX11_72 dX11_isSorted_160 rfl rfl ?_
                refine ga_iload dX11_isSorted_163 rfl ?_
                refine ga_iload dX11_isSorted_165 rfl ?_
                refine ga_iadd (z := (80 * (p : Int) + (b : Int))) dX11_isSorted_167 (by omega) (⟨by omega, by omega⟩) ?_
                refine hg_iald dX11_isSorted_168 rfl (by omega) (by omega) ?_
                refine ga_aload_n dX11_isSorted_169 rfl ?_
                refine hg_getR grX11_72 dX11_isSorted_170 rfl rfl ?_
                refine ga_iload dX11_isSorted_173 rfl ?_
                refine ga_iload dX11_isSorted_175 rfl ?_
                refine ga_iadd (z := (80 * (p : Int) + (a : Int))) dX11_isSorted_177 (by omega) (⟨by omega, by omega⟩) ?_
                refine hg_iald dX11_isSorted_178 rfl (by omega) (by omega) ?_
                refine ga_icmp_ne (tgt := 212) dX11_isSorted_179 rfl (fun c_179 => ?_) (fun c_179 => ?_)
                · rw [h1 _ (by omega), h1 _ (by omega)] at c_179
                  exact NO (fun z => c_179 (E9.mp z.2).1)
                · rw [h1 _ (by omega), h1 _ (by omega)] at c_179
                  refine ga_aload_n dX11_isSorted_182 rfl ?_
                  refine hg_getR grX11_75 dX11_isSorted_183 rfl rfl ?_
                  refine ga_iload dX11_isSorted_186 rfl ?_
                  refine hg_iald dX11_isSorted_188 rfl (by omega) (by omega) ?_
                  refine ga_aload_n dX11_isSorted_189 rfl ?_
                  refine hg_getR grX11_75 dX11_isSorted_190 rfl rfl ?_
                  refine ga_iload dX11_isSorted_193 rfl ?_
                  refine hg_iald dX11_isSorted_195 rfl (by omega) (by omega) ?_
                  refine ga_icmp_ne (tgt := 212) dX11_isSorted_196 rfl (fun c_196 => ?_) (fun c_196 => ?_)
                  · rw [ht b (by omega) (by omega) c_156, ht a (by omega) (by omega) ua] at c_196
                    exact NO (fun z => c_196 (E9.mp z.2).2)
                  · rw [ht b (by omega) (by omega) c_156, ht a (by omega) (by omega) ua] at c_196
                    refine ga_aload_n dX11_isSorted_199 rfl ?_
                    refine hg_getR grX11_72 dX11_isSorted_200 rfl rfl ?_
                    refine ga_iload dX11_isSorted_203 rfl ?_
                    refine ga_iload dX11_isSorted_205 rfl ?_
                    refine ga_iadd (z := (80 * ((p : Int) + 1) + (b : Int))) dX11_isSorted_207 (by omega) (⟨by omega, by omega⟩) ?_
                    refine hg_iald dX11_isSorted_208 rfl (by omega) (by omega) ?_
                    refine ga_goto (tgt := 214) dX11_isSorted_209 rfl ?_
                    refine T214 _ ?_
                    rw [h2 b (by omega) (by omega) c_156]
                    exact (upF_yes q (by omega) (by omega) ua c_156 (E9.mpr ⟨c_179, c_196⟩) (by rw [← hv]; exact c_137) (by omega) (by omega)).symm
      · have ua : ¬ bU σ a := by
          have c9 : τ.1 86 a = 0 := c_109
          rw [hua] at c9
          exact tv_eq0.mp c9
        refine ga_goto (tgt := 251) dX11_isSorted_112 rfl ?_
        refine ga_iinc (z := ((a + 1 : Nat) : Int)) (lv2 := [_, _, _, _, _, _, _, _]) dX11_isSorted_251 (by decide) rfl rfl (by omega) (⟨by omega, by omega⟩) rfl ?_
        refine ga_goto (tgt := 83) dX11_isSorted_254 rfl ?_
        refine k _ _ x1 ht L1 (fun x a1 a2 a3 => ?_) (fun r r1 r2 => ?_)
        · by_cases w : x = a
          · rw [w] at a3; exact absurd a3 ua
          · exact N1 x a1 (by omega) a3
        · rw [cnS_s, tif0 (fun z => ua z.1), Int.add_zero]
          exact h3 r r1 r2
theorem T_X11_isSorted (σ : ga_S) (N D M E p : Nat) (d e : Int) (ch : Int → Int) (hw : wfR σ N D M E) (hp : p < 30) (d1 : 0 ≤ d) (d2 : d < 60) (e1 : 0 ≤ e) (e2 : e < 60)
    (hE : ∀ x y : Int, 0 ≤ x → x < 80 → 0 ≤ y → y < 80 → bU σ x → bU σ y → ((SE σ ch ((p : Int) + 1)) x y ↔ σ.1 84 (80 * p + x) = σ.1 84 (80 * p + y) ∧ tcF σ d e x = tcF σ d e y)) (hu : ∀ a : Int, 0 ≤ a → a < 80 → σ.1 86 a = tv (bU σ a)) : ga_Mt 3 0 0 mX11_isSorted [Vr 63, Vi (p : Int), Vi d, Vi e] (HP σ) (fun v h => ∃ τ, exc [84, 85, 87] σ τ ∧ (∀ j : Int, j < 80 * ((p : Int) + 1) → τ.1 84 j = σ.1 84 j) ∧ (∀ a : Int, 0 ≤ a → a < 80 → bU σ a → τ.1 84 (80 * ((p : Int) + 1) + a) = lsM (bU σ) (SE σ ch ((p : Int) + 1)) 80 a) ∧ v = some (Vi (tv (EV σ ch ((p : Int) + 1)))) ∧ h = HP τ) ga_nox := by
  have hk := hw.1.2.2.2.2.2.1
  refine ga_meth [some (Vr 63), some (Vi (p : Int)), some (Vi d), some (Vi e), none, none, none, none] rfl rfl (by decide +kernel) (Nat.le_of_ble_eq_true rfl) rfl ?_
  refine ga_iconst dX11_isSorted_0 ⟨by decide, by decide⟩ ?_
  refine ga_istore (lv2 := [_, _, _, _, _, _, _, _]) dX11_isSorted_1 (by decide) rfl rfl ?_
  refine (ga_loop 80 (fun a => ∀ τ, exc [85, 87] σ τ → (∀ x : Int, 0 ≤ x → x < a → bU σ x → τ.1 85 x = tcF σ d e x) → (∀ r : Int, 0 ≤ r → r < a → τ.1 87 r = 0) → ga_W 3 0 0 0 0 mX11_isSorted (fun v h => ∃ τ, exc [84, 85, 87] σ τ ∧ (∀ j : Int, j < 80 * ((p : Int) + 1) → τ.1 84 j = σ.1 84 j) ∧ (∀ a : Int, 0 ≤ a → a < 80 → bU σ a → τ.1 84 (80 * ((p : Int) + 1) + a) = lsM (bU σ) (SE σ ch ((p : Int) + 1)) 80 a) ∧ v = some (Vi (tv (EV σ ch ((p : Int) + 1)))) ∧ h = HP τ) ga_nox 3 [some (Vr 63), some (Vi (p : Int)), some (Vi d), some (Vi e), some (Vi (a : Int)), none, none, none] [] (HP τ)) ?_ ?_ 0 (Nat.zero_le _) σ exc_r (fun x x1 x2 => by omega) (fun x x1 x2 => by omega) : _)
  · intro τ hx ht h3
    refine ga_iload dX11_isSorted_3 rfl ?_
    refine ga_bipush dX11_isSorted_5 ⟨by decide, by decide⟩ (by decide) ?_
    refine ga_icmp_ge (tgt := 66) dX11_isSorted_7 rfl (fun c_7 => ?_) (fun c_7 => ?_)
    · refine W_isSorted_2 σ p d e ch hp hE hu τ (exc_m hx (by decide)) ht (fun j _ => by rw [hx.1 84 (by decide)]) h3 _ _ _ _
    · omega
  · intro a ha k τ hx ht h3
    have hua : τ.1 86 a = tv (bU σ a) := by rw [hx.1 86 (by decide)]; exact hu a (by omega) (by omega)
    have T51 : ∀ v : Int, (bU σ a → v = tcF σ d e a) → ga_W 3 0 0 0 0 mX11_isSorted (fun v h => ∃ τ, exc [84, 85, 87] σ τ ∧ (∀ j : Int, j < 80 * ((p : Int) + 1) → τ.1 84 j = σ.1 84 j) ∧ (∀ a : Int, 0 ≤ a → a < 80 → bU σ a → τ.1 84 (80 * ((p : Int) + 1) + a) = lsM (bU σ) (SE σ ch ((p : Int) + 1)) 80 a) ∧ v = some (Vi (tv (EV σ ch ((p : Int) + 1)))) ∧ h = HP τ) ga_nox 51 [some (Vr 63), some (Vi (p : Int)), some (Vi d), some (Vi e), some (Vi (a : Int)), none, none, none] [Vi v, Vi (a : Int), Vr 85] (HP τ) := by
      intro v hv
      refine hg_iast dX11_isSorted_51 rfl (by omega) (by omega) ?_
      refine ga_aload_n dX11_isSorted_52 rfl ?_
      refine hg_getR grX11_81 dX11_isSorted_53 rfl rfl ?_
      refine ga_iload dX11_isSorted_56 rfl ?_
      refine ga_iconst dX11_isSorted_58 ⟨by decide, by decide⟩ ?_
      refine hg_iast dX11_isSorted_59 rfl (by omega) (by omega) ?_
      refine ga_iinc (z := ((a + 1 : Nat) : Int)) (lv2 := [_, _, _, _, _, _, _, _]) dX11_isSorted_60 (by decide) rfl rfl (by omega) (⟨by omega, by omega⟩) rfl ?_
      refine ga_goto (tgt := 3) dX11_isSorted_63 rfl ?_
      refine k _ (exc_st (exc_st hx (by decide)) (by decide)) (fun x x1 x2 x3 => ?_) (fun r r1 r2 => ?_)
      · show ga_up (τ.1 85) a v x = _
        by_cases w : x = a
        · rw [w, ga_up_at]; rw [w] at x3; exact hv x3
        · rw [ga_up_ne _ _ w]; exact ht x x1 (by omega) x3
      · show ga_up (τ.1 87) a 0 r = 0
        by_cases w : r = a
        · rw [w, ga_up_at]
        · rw [ga_up_ne _ _ w]; exact h3 r r1 (by omega)
    have hc : core τ = core σ := core_exc hx (by decide)
    have eh : ∀ x n : Int, hrn τ x n 4 = hrn σ x n 4 := fun x n => cg (fun β => hrn β x n 4) (fun _ => rfl) hc
    have e66 : τ.1 66 = σ.1 66 := hx.1 66 (by decide)
    have T39 : ∀ x : Int, x = (if (a : Int) < 40 then d else e) → ga_W 3 0 0 0 0 mX11_isSorted (fun v h => ∃ τ, exc [84, 85, 87] σ τ ∧ (∀ j : Int, j < 80 * ((p : Int) + 1) → τ.1 84 j = σ.1 84 j) ∧ (∀ a : Int, 0 ≤ a → a < 80 → bU σ a → τ.1 84 (80 * ((p : Int) + 1) + a) = lsM (bU σ) (SE σ ch ((p : Int) + 1)) 80 a) ∧ v = some (Vi (tv (EV σ ch ((p : Int) + 1)))) ∧ h = HP τ) ga_nox 39 [some (Vr 63), some (Vi (p : Int)), some (Vi d), some (Vi e), some (Vi (a : Int)), none, none, none] [Vi x, Vr 63, Vi (a : Int), Vr 85] (HP τ) := by
      intro x hx2
      have xb : 0 ≤ x ∧ x < 60 := by rw [hx2]; split <;> omega
      refine ga_iload dX11_isSorted_39 rfl ?_
      refine ga_bipush dX11_isSorted_41 ⟨by decide, by decide⟩ (by decide) ?_
      refine ga_irem (z := ((a : Int) % 40)) dX11_isSorted_43 (by omega) (by decide) (by omega) ?_
      refine hc_V (T_X11_touch x ((a : Int) % 40) τ xb.1 xb.2 (by rw [e66]; exact hk _ xb.1 xb.2)) fX11_touch rfl kX11_touch lkX11_171 dX11_isSorted_44 rfl rfl rfl rfl rfl rfl rfl rfl ?_
      refine ga_goto (tgt := 51) dX11_isSorted_47 rfl ?_
      refine T51 _ (fun _ => ?_)
      rw [eh, hx2]
      rfl
    refine ga_iload dX11_isSorted_3 rfl ?_
    refine ga_bipush dX11_isSorted_5 ⟨by decide, by decide⟩ (by decide) ?_
    refine ga_icmp_ge (tgt := 66) dX11_isSorted_7 rfl (fun c_7 => ?_) (fun c_7 => ?_)
    · omega
    · refine ga_aload_n dX11_isSorted_10 rfl ?_
      refine hg_getR grX11_75 dX11_isSorted_11 rfl rfl ?_
      refine ga_iload dX11_isSorted_14 rfl ?_
      refine ga_aload_n dX11_isSorted_16 rfl ?_
      refine hg_getR grX11_78 dX11_isSorted_17 rfl rfl ?_
      refine ga_iload dX11_isSorted_20 rfl ?_
      refine hg_zald dX11_isSorted_22 rfl (by omega) (by omega) ?_
      refine ga_if_eq (tgt := 50) dX11_isSorted_23 rfl (fun c_23 => ?_) (fun c_23 => ?_)
      · rw [hua, tv_eq0] at c_23
        refine ga_iconst dX11_isSorted_50 ⟨by decide, by decide⟩ ?_
        exact T51 0 (fun w => absurd w c_23)
      · refine ga_aload_n dX11_isSorted_26 rfl ?_
        refine ga_iload dX11_isSorted_27 rfl ?_
        refine ga_bipush dX11_isSorted_29 ⟨by decide, by decide⟩ (by decide) ?_
        refine ga_icmp_ge (tgt := 38) dX11_isSorted_31 rfl (fun c_31 => ?_) (fun c_31 => ?_)
        · refine ga_iload_n dX11_isSorted_38 rfl ?_
          exact T39 e (by rw [if_neg (by omega)])
        · refine ga_iload_n dX11_isSorted_34 rfl ?_
          refine ga_goto (tgt := 39) dX11_isSorted_35 rfl ?_
          exact T39 d (by rw [if_pos (by omega)])
