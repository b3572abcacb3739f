-- the reference: isJoined, join
abbrev vZ (s : Int) (σ : ga_S) : Int → UInt64 := fun d => σ.2 67 (30 * s + d)
def serO (s : Int) (σ : ga_S) (b net : Int) : Int := if vP s σ (b * 4 + 0) = net then vP s σ (b * 4 + 1) else vP s σ (b * 4 + 0)
def serK (s : Int) (σ : ga_S) (a net : Int) : Int := if vP s σ (a * 4 + 0) = net then 0 else 1
def parR (s : Int) (σ : ga_S) (a b : Int) : ga_S := stI (stD σ 67 (ga_up (σ.2 67) (30 * s + a) (FP.dadd (σ.2 67 (30 * s + a)) (σ.2 67 (30 * s + b))))) 68 (ga_up (σ.1 68) (30 * s + b) 1)
def serR (s : Int) (σ : ga_S) (a b net : Int) : ga_S := stI (stD (stI σ 69 (ga_up (σ.1 69) (120 * s + (a * 4 + serK s σ a net)) (serO s σ b net))) 67 (ga_up (σ.2 67) (30 * s + a) (serF (σ.2 67 (30 * s + a)) (σ.2 67 (30 * s + b))))) 68 (ga_up (σ.1 68) (30 * s + b) 1)
noncomputable def jR (s r : Int) (N : Nat) (σ : ga_S) (a b : Int) : ga_S := if r = 0 then parR s σ a b else serR s σ a b (coF s a b σ N)
def CR (s r : Int) (N : Nat) (σ : ga_S) (a b : Nat) : Prop := (vG s σ a = 0 ∧ vG s σ b = 0 ∧ vK s σ a = vK s σ b) ∧ ((r = 0 ∧ parP (vP s σ) (σ.1 71) (vK s σ) a b) ∨ (r = 1 ∧ coF s a b σ N ≠ -1))
/-- what a side of the reference keeps to -/
def rok (s : Int) (σ : ga_S) (N D : Nat) : Prop := (s = 0 ∨ s = 1) ∧ σ.1 70 s = D ∧ D ≤ 30 ∧ σ.1 65 s = N ∧ N ≤ 40 ∧ (∀ x : Int, 0 ≤ x → x < 60 → 0 ≤ σ.1 66 x ∧ σ.1 66 x < 8) ∧ (∀ x : Int, 0 ≤ x → x < 60 → SzG (σ.2 67 x))
def RPost (s r : Int) (N D : Nat) (σ : ga_S) : ga_Po := fun v h => (∃ a b : Nat, FstP (CR s r N σ) D a b ∧ v = some (Vi 1) ∧ h = HP (jR s r N σ a b)) ∨ ((∀ a b : Nat, a < b → b < D → ¬ CR s r N σ a b) ∧ v = some (Vi 0) ∧ h = HP σ)
theorem T_X11_isJoined (s r : Int) (σ : ga_S) (N D : Nat) (hr : r = 0 ∨ r = 1) (hs : rok s σ N D) : ga_Mt 4 0 0 mX11_isJoined [Vr 63, Vi s, Vi r] (HP σ) (RPost s r N D σ) ga_nox := by
  obtain ⟨h1, hD, hD2, hNN, hN2, hk, hz⟩ := hs
  refine ga_meth [some (Vr 63), some (Vi s), some (Vi r), none, none, none, none, none, none, none] rfl rfl (by decide +kernel) (Nat.le_of_ble_eq_true rfl) rfl ?_
  refine ga_bipush dX11_isJoined_0 ⟨by decide, by decide⟩ (by decide) ?_
  refine ga_iload_n dX11_isJoined_2 rfl ?_
  refine ga_imul (z := (30 * s)) dX11_isJoined_3 (by omega) (⟨by omega, by omega⟩) ?_
  refine ga_istore_n (lv2 := [_, _, _, _, _, _, _, _, _, _]) dX11_isJoined_4 (by decide) rfl rfl ?_
  refine ga_iload_n dX11_isJoined_5 rfl ?_
  refine ga_aload_n dX11_isJoined_6 rfl ?_
  refine hg_getR grX11_30 dX11_isJoined_7 rfl rfl ?_
  refine ga_iload_n dX11_isJoined_10 rfl ?_
  refine hg_iald dX11_isJoined_11 rfl (by omega) (by omega) ?_
  refine ga_iadd (z := (30 * s + D)) dX11_isJoined_12 (by omega) (⟨by omega, by omega⟩) ?_
  refine ga_istore (lv2 := [_, _, _, _, _, _, _, _, _, _]) dX11_isJoined_13 (by decide) rfl rfl ?_
  refine ga_iload_n dX11_isJoined_15 rfl ?_
  refine ga_istore (lv2 := [_, _, _, _, _, _, _, _, _, _]) dX11_isJoined_16 (by decide) rfl rfl ?_
  refine ga_eqlv (lv2 := [some (Vr 63), some (Vi s), some (Vi r), some (Vi (30 * s)), some (Vi (30 * s + D)), some (Vi (30 * s + ((0 : Nat) : Int))), none, none, none, none]) (by rw [show 30 * s + ((0 : Nat) : Int) = 30 * s by omega]) ?_
  refine (ga_loop D (fun i => ∀ y7 y8 y9 y6, (∀ a b : Nat, a < b → b < D → a < i → ¬ CR s r N σ a b) → ga_W 4 0 0 0 0 mX11_isJoined (RPost s r N D σ) ga_nox 18 [some (Vr 63), some (Vi s), some (Vi r), some (Vi (30 * s)), some (Vi (30 * s + D)), some (Vi (30 * s + i)), y6, y7, y8, y9] [] (HP σ)) ?_ ?_ 0 (Nat.zero_le _) _ _ _ _ (fun _ _ _ _ q => absurd q (Nat.not_lt_zero _)) : _)
  · intro y7 y8 y9 y6 hno
    refine ga_iload dX11_isJoined_18 rfl ?_
    refine ga_iload dX11_isJoined_20 rfl ?_
    refine ga_icmp_ge (tgt := 275) dX11_isJoined_22 rfl (fun c_22 => ?_) (fun c_22 => ?_)
    · refine ga_iconst dX11_isJoined_275 ⟨by decide, by decide⟩ ?_
      refine ga_ret (v := some _) ?_ rfl (by decide) (by decide) ⟨dX11_isJoined_276, _, rfl, rfl⟩
      exact Or.inr ⟨fun a b q1 q2 => hno a b q1 q2 (by omega), rfl, rfl⟩
    · omega
  · intro i hi k y7 y8 y9 y6 hno
    refine ga_iload dX11_isJoined_18 rfl ?_
    refine ga_iload dX11_isJoined_20 rfl ?_
    refine ga_icmp_ge (tgt := 275) dX11_isJoined_22 rfl (fun c_22 => ?_) (fun c_22 => ?_)
    · omega
    · refine ga_iload dX11_isJoined_25 rfl ?_
      refine ga_iconst dX11_isJoined_27 ⟨by decide, by decide⟩ ?_
      refine ga_iadd (z := (30 * s + ((i + 1 : Nat) : Int))) dX11_isJoined_28 (by omega) (⟨by omega, by omega⟩) ?_
      refine ga_istore (lv2 := [_, _, _, _, _, _, _, _, _, _]) dX11_isJoined_29 (by decide) rfl rfl ?_
      refine (ga_loop D (fun j => ∀ y7 y8 y9, i < j → (∀ b : Nat, i < b → b < j → ¬ CR s r N σ i b) → ga_W 4 0 0 0 0 mX11_isJoined (RPost s r N D σ) ga_nox 31 [some (Vr 63), some (Vi s), some (Vi r), some (Vi (30 * s)), some (Vi (30 * s + D)), some (Vi (30 * s + i)), some (Vi (30 * s + j)), y7, y8, y9] [] (HP σ)) ?_ ?_ (i + 1) (by omega) _ _ _ (by omega) (fun b q1 q2 => absurd q2 (by omega)) : _)
      · intro y7 y8 y9 _ hno2
        refine ga_iload dX11_isJoined_31 rfl ?_
        refine ga_iload dX11_isJoined_33 rfl ?_
        refine ga_icmp_ge (tgt := 269) dX11_isJoined_35 rfl (fun c_35 => ?_) (fun c_35 => ?_)
        · refine ga_iinc (z := (30 * s + ((i + 1 : Nat) : Int))) (lv2 := [_, _, _, _, _, _, _, _, _, _]) dX11_isJoined_269 (by decide) rfl rfl (by omega) (⟨by omega, by omega⟩) rfl ?_
          refine ga_goto (tgt := 18) dX11_isJoined_272 rfl ?_
          refine k _ _ _ _ (fun a b q1 q2 q3 => ?_)
          rcases Nat.lt_or_ge a i with q | q
          · exact hno a b q1 q2 q
          · have : a = i := by omega
            subst this
            exact hno2 b q1 q2
        · omega
      · intro j hj k2 y7 y8 y9 hij hno2
        have GO : ¬ CR s r N σ i j → ∀ y7, ga_W 4 0 0 0 0 mX11_isJoined (RPost s r N D σ) ga_nox 263 [some (Vr 63), some (Vi s), some (Vi r), some (Vi (30 * s)), some (Vi (30 * s + D)), some (Vi (30 * s + i)), some (Vi (30 * s + j)), y7, y8, y9] [] (HP σ) := by
          intro hno3 y7
          refine ga_iinc (z := (30 * s + ((j + 1 : Nat) : Int))) (lv2 := [_, _, _, _, _, _, _, _, _, _]) dX11_isJoined_263 (by decide) rfl rfl (by omega) (⟨by omega, by omega⟩) rfl ?_
          refine ga_goto (tgt := 31) dX11_isJoined_266 rfl ?_
          refine k2 _ _ _ (by omega) (fun b q1 q2 => ?_)
          rcases Nat.lt_or_ge b j with q | q
          · exact hno2 b q1 q
          · have : b = j := by omega
            subst this
            exact hno3
        have FST : CR s r N σ i j → FstP (CR s r N σ) D i j := by
          intro q
          refine ⟨hij, hj, q, fun a b q1 q2 q3 => ?_⟩
          rcases q3 with q3 | ⟨q3, q4⟩
          · exact hno a b q1 q2 q3
          · subst q3
            exact hno2 b q1 q4
        have zi := hz (30 * s + i) (by omega) (by omega)
        have zj := hz (30 * s + j) (by omega) (by omega)
        refine ga_iload dX11_isJoined_31 rfl ?_
        refine ga_iload dX11_isJoined_33 rfl ?_
        refine ga_icmp_ge (tgt := 269) dX11_isJoined_35 rfl (fun c_35 => ?_) (fun c_35 => ?_)
        · omega
        · refine ga_aload_n dX11_isJoined_38 rfl ?_
          refine hg_getR grX11_23 dX11_isJoined_39 rfl rfl ?_
          refine ga_iload dX11_isJoined_42 rfl ?_
          refine hg_zald dX11_isJoined_44 rfl (by omega) (by omega) ?_
          refine ga_if_ne (tgt := 263) dX11_isJoined_45 rfl (fun c_45 => ?_) (fun c_45 => ?_)
          · exact GO (fun q => c_45 q.1.1) _
          · refine ga_aload_n dX11_isJoined_48 rfl ?_
            refine hg_getR grX11_23 dX11_isJoined_49 rfl rfl ?_
            refine ga_iload dX11_isJoined_52 rfl ?_
            refine hg_zald dX11_isJoined_54 rfl (by omega) (by omega) ?_
            refine ga_if_ne (tgt := 263) dX11_isJoined_55 rfl (fun c_55 => ?_) (fun c_55 => ?_)
            · exact GO (fun q => c_55 q.1.2.1) _
            · refine ga_aload_n dX11_isJoined_58 rfl ?_
              refine hg_getR grX11_16 dX11_isJoined_59 rfl rfl ?_
              refine ga_iload dX11_isJoined_62 rfl ?_
              refine hg_iald dX11_isJoined_64 rfl (by omega) (by omega) ?_
              refine ga_aload_n dX11_isJoined_65 rfl ?_
              refine hg_getR grX11_16 dX11_isJoined_66 rfl rfl ?_
              refine ga_iload dX11_isJoined_69 rfl ?_
              refine hg_iald dX11_isJoined_71 rfl (by omega) (by omega) ?_
              refine ga_icmp_eq (tgt := 78) dX11_isJoined_72 rfl (fun c_72 => ?_) (fun c_72 => ?_)
              rotate_left
              · refine ga_goto (tgt := 263) dX11_isJoined_75 rfl ?_
                exact GO (fun q => c_72 q.1.2.2) _
              · have R145 : ∀ net : Int, r = 1 → net = coF s i j σ N → ga_W 4 0 0 0 0 mX11_isJoined (RPost s r N D σ) ga_nox 145 [some (Vr 63), some (Vi s), some (Vi r), some (Vi (30 * s)), some (Vi (30 * s + D)), some (Vi (30 * s + i)), some (Vi (30 * s + j)), some (Vi net), y8, y9] [] (HP σ) := by
                  intro net hr1 hnet
                  refine ga_iload dX11_isJoined_145 rfl ?_
                  refine ga_iconst dX11_isJoined_147 ⟨by decide, by decide⟩ ?_
                  refine ga_icmp_eq (tgt := 263) dX11_isJoined_148 rfl (fun c_148 => ?_) (fun c_148 => ?_)
                  · exact GO (fun q => q.2.elim (fun w => by omega) (fun w => w.2 (by rw [← hnet]; exact c_148))) _
                  · have C : CR s r N σ i j := ⟨⟨c_45, c_55, c_72⟩, Or.inr ⟨hr1, by rw [← hnet]; exact c_148⟩⟩
                    have R209 : ∀ kk o : Int, kk = serK s σ i net → o = serO s σ j net → ga_W 4 0 0 0 0 mX11_isJoined (RPost s r N D σ) ga_nox 209 [some (Vr 63), some (Vi s), some (Vi r), some (Vi (30 * s)), some (Vi (30 * s + D)), some (Vi (30 * s + i)), some (Vi (30 * s + j)), some (Vi net), some (Vi o), y9] [Vi kk] (HP σ) := by
                      intro kk o hkk ho
                      have kb : kk = 0 ∨ kk = 1 := by rw [hkk]; unfold serK; split <;> simp
                      refine ga_istore (lv2 := [_, _, _, _, _, _, _, _, _, _]) dX11_isJoined_209 (by decide) rfl rfl ?_
                      refine ga_aload_n dX11_isJoined_211 rfl ?_
                      refine hg_getR grX11_27 dX11_isJoined_212 rfl rfl ?_
                      refine ga_iconst dX11_isJoined_215 ⟨by decide, by decide⟩ ?_
                      refine ga_iload dX11_isJoined_216 rfl ?_
                      refine ga_imul dX11_isJoined_218 rfl (⟨by omega, by omega⟩) ?_
                      refine ga_iload dX11_isJoined_219 rfl ?_
                      refine ga_iadd (z := (120 * s + ((i : Int) * 4 + kk))) dX11_isJoined_221 (by omega) (⟨by omega, by omega⟩) ?_
                      refine ga_iload dX11_isJoined_222 rfl ?_
                      refine hg_iast dX11_isJoined_224 rfl (by omega) (by omega) ?_
                      refine ga_aload_n dX11_isJoined_225 rfl ?_
                      refine hg_getR grX11_19 dX11_isJoined_226 rfl rfl ?_
                      refine ga_iload dX11_isJoined_229 rfl ?_
                      refine ga_dconst1 dX11_isJoined_231 ?_
                      refine ga_dconst1 dX11_isJoined_232 ?_
                      refine ga_aload_n dX11_isJoined_233 rfl ?_
                      refine hg_getR grX11_19 dX11_isJoined_234 rfl rfl ?_
                      refine ga_iload dX11_isJoined_237 rfl ?_
                      refine hg_dald dX11_isJoined_239 rfl (by omega) (by omega) ?_
                      refine ga_ddiv dX11_isJoined_240 (SzG_n64 (SzG_inv zi)) ?_
                      refine ga_dconst1 dX11_isJoined_241 ?_
                      refine ga_aload_n dX11_isJoined_242 rfl ?_
                      refine hg_getR grX11_19 dX11_isJoined_243 rfl rfl ?_
                      refine ga_iload dX11_isJoined_246 rfl ?_
                      refine hg_dald dX11_isJoined_248 rfl (by omega) (by omega) ?_
                      refine ga_ddiv dX11_isJoined_249 (SzG_n64 (SzG_inv zj)) ?_
                      refine ga_dadd dX11_isJoined_250 (SzG_n64 (SzG_add (SzG_inv zi) (SzG_inv zj))) ?_
                      refine ga_ddiv dX11_isJoined_251 (SzG_n64 (SzG_ser zi zj)) ?_
                      refine hg_dast dX11_isJoined_252 rfl (by omega) (by omega) ?_
                      refine ga_aload_n dX11_isJoined_253 rfl ?_
                      refine hg_getR grX11_23 dX11_isJoined_254 rfl rfl ?_
                      refine ga_iload dX11_isJoined_257 rfl ?_
                      refine ga_iconst dX11_isJoined_259 ⟨by decide, by decide⟩ ?_
                      refine hg_zast dX11_isJoined_260 rfl (by omega) (by omega) (by omega) ?_
                      refine ga_iconst dX11_isJoined_261 ⟨by decide, by decide⟩ ?_
                      refine ga_ret (v := some _) ?_ rfl (by decide) (by decide) ⟨dX11_isJoined_262, _, rfl, rfl⟩
                      refine Or.inl ⟨i, j, FST C, rfl, ?_⟩
                      unfold jR
                      rw [if_neg (by omega), hkk, ho, hnet]
                      rfl
                    have R188 : ∀ o : Int, o = serO s σ j net → ga_W 4 0 0 0 0 mX11_isJoined (RPost s r N D σ) ga_nox 188 [some (Vr 63), some (Vi s), some (Vi r), some (Vi (30 * s)), some (Vi (30 * s + D)), some (Vi (30 * s + i)), some (Vi (30 * s + j)), some (Vi net), y8, y9] [Vi o] (HP σ) := by
                      intro o ho
                      refine ga_istore (lv2 := [_, _, _, _, _, _, _, _, _, _]) dX11_isJoined_188 (by decide) rfl rfl ?_
                      refine ga_aload_n dX11_isJoined_190 rfl ?_
                      refine hg_getR grX11_27 dX11_isJoined_191 rfl rfl ?_
                      refine ga_iconst dX11_isJoined_194 ⟨by decide, by decide⟩ ?_
                      refine ga_iload dX11_isJoined_195 rfl ?_
                      refine ga_imul (z := (120 * s + ((i : Int) * 4 + 0))) dX11_isJoined_197 (by omega) (⟨by omega, by omega⟩) ?_
                      refine hg_iald dX11_isJoined_198 rfl (by omega) (by omega) ?_
                      refine ga_iload dX11_isJoined_199 rfl ?_
                      refine ga_icmp_ne (tgt := 208) dX11_isJoined_201 rfl (fun c_201 => ?_) (fun c_201 => ?_)
                      · refine ga_iconst dX11_isJoined_208 ⟨by decide, by decide⟩ ?_
                        exact R209 1 o (by unfold serK; rw [if_neg c_201]) ho
                      · refine ga_iconst dX11_isJoined_204 ⟨by decide, by decide⟩ ?_
                        refine ga_goto (tgt := 209) dX11_isJoined_205 rfl ?_
                        exact R209 0 o (by unfold serK; rw [if_pos c_201]) ho
                    refine ga_aload_n dX11_isJoined_151 rfl ?_
                    refine hg_getR grX11_27 dX11_isJoined_152 rfl rfl ?_
                    refine ga_iconst dX11_isJoined_155 ⟨by decide, by decide⟩ ?_
                    refine ga_iload dX11_isJoined_156 rfl ?_
                    refine ga_imul (z := (120 * s + ((j : Int) * 4 + 0))) dX11_isJoined_158 (by omega) (⟨by omega, by omega⟩) ?_
                    refine hg_iald dX11_isJoined_159 rfl (by omega) (by omega) ?_
                    refine ga_iload dX11_isJoined_160 rfl ?_
                    refine ga_icmp_ne (tgt := 179) dX11_isJoined_162 rfl (fun c_162 => ?_) (fun c_162 => ?_)
                    · refine ga_aload_n dX11_isJoined_179 rfl ?_
                      refine hg_getR grX11_27 dX11_isJoined_180 rfl rfl ?_
                      refine ga_iconst dX11_isJoined_183 ⟨by decide, by decide⟩ ?_
                      refine ga_iload dX11_isJoined_184 rfl ?_
                      refine ga_imul (z := (120 * s + ((j : Int) * 4 + 0))) dX11_isJoined_186 (by omega) (⟨by omega, by omega⟩) ?_
                      refine hg_iald dX11_isJoined_187 rfl (by omega) (by omega) ?_
                      exact R188 _ (by unfold serO; rw [if_neg c_162])
                    · refine ga_aload_n dX11_isJoined_165 rfl ?_
                      refine hg_getR grX11_27 dX11_isJoined_166 rfl rfl ?_
                      refine ga_iconst dX11_isJoined_169 ⟨by decide, by decide⟩ ?_
                      refine ga_iload dX11_isJoined_170 rfl ?_
                      refine ga_imul dX11_isJoined_172 rfl (⟨by omega, by omega⟩) ?_
                      refine ga_iconst dX11_isJoined_173 ⟨by decide, by decide⟩ ?_
                      refine ga_iadd (z := (120 * s + ((j : Int) * 4 + 1))) dX11_isJoined_174 (by omega) (⟨by omega, by omega⟩) ?_
                      refine hg_iald dX11_isJoined_175 rfl (by omega) (by omega) ?_
                      refine ga_goto (tgt := 188) dX11_isJoined_176 rfl ?_
                      exact R188 _ (by unfold serO; rw [if_pos c_162])
                have R125 : ¬ (r = 0 ∧ parP (vP s σ) (σ.1 71) (vK s σ) i j) → ga_W 4 0 0 0 0 mX11_isJoined (RPost s r N D σ) ga_nox 125 [some (Vr 63), some (Vi s), some (Vi r), some (Vi (30 * s)), some (Vi (30 * s + D)), some (Vi (30 * s + i)), some (Vi (30 * s + j)), y7, y8, y9] [] (HP σ) := by
                  intro hnp
                  refine ga_iload_n dX11_isJoined_125 rfl ?_
                  refine ga_iconst dX11_isJoined_126 ⟨by decide, by decide⟩ ?_
                  refine ga_icmp_ne (tgt := 142) dX11_isJoined_127 rfl (fun c_127 => ?_) (fun c_127 => ?_)
                  · refine ga_iconst dX11_isJoined_142 ⟨by decide, by decide⟩ ?_
                    refine ga_istore (lv2 := [_, _, _, _, _, _, _, _, _, _]) dX11_isJoined_143 (by decide) rfl rfl ?_
                    refine ga_iload dX11_isJoined_145 rfl ?_
                    refine ga_iconst dX11_isJoined_147 ⟨by decide, by decide⟩ ?_
                    refine ga_icmp_eq (tgt := 263) dX11_isJoined_148 rfl (fun c_148 => ?_) (fun c_148 => ?_)
                    · exact GO (fun q => q.2.elim hnp (fun w => c_127 w.1)) _
                    · exact absurd rfl c_148
                  · refine ga_aload_n dX11_isJoined_130 rfl ?_
                    refine ga_iload_n dX11_isJoined_131 rfl ?_
                    refine ga_iload dX11_isJoined_132 rfl ?_
                    refine ga_iload dX11_isJoined_134 rfl ?_
                    refine hc_V (T_X11_common s i j σ D N h1 hD hD2 hNN hN2 (by omega) (by omega) (by omega) (by omega) hk) fX11_common rfl kX11_common lkX11_124 dX11_isJoined_136 rfl rfl rfl rfl rfl rfl rfl rfl ?_
                    refine ga_goto (tgt := 143) dX11_isJoined_139 rfl ?_
                    refine ga_istore (lv2 := [_, _, _, _, _, _, _, _, _, _]) dX11_isJoined_143 (by decide) rfl rfl ?_
                    exact R145 _ c_127 rfl
                refine ga_iload_n dX11_isJoined_78 rfl ?_
                refine ga_if_ne (tgt := 125) dX11_isJoined_79 rfl (fun c_79 => ?_) (fun c_79 => ?_)
                · exact R125 (fun q => c_79 q.1)
                · refine ga_aload_n dX11_isJoined_82 rfl ?_
                  refine ga_iload dX11_isJoined_83 rfl ?_
                  refine ga_iload dX11_isJoined_85 rfl ?_
                  refine hc_V (T_X11_isParallel s i j σ h1 (by omega) (by omega) (by omega) (by omega) hk) fX11_isParallel rfl kX11_isParallel lkX11_121 dX11_isJoined_87 rfl rfl rfl rfl rfl rfl rfl rfl ?_
                  refine ga_if_eq (tgt := 125) dX11_isJoined_90 rfl (fun c_90 => ?_) (fun c_90 => ?_)
                  · rw [tv_eq0] at c_90
                    exact R125 (fun q => c_90 q.2)
                  · rw [tv_ne0] at c_90
                    refine ga_aload_n dX11_isJoined_93 rfl ?_
                    refine hg_getR grX11_19 dX11_isJoined_94 rfl rfl ?_
                    refine ga_iload dX11_isJoined_97 rfl ?_
                    refine ga_aload_n dX11_isJoined_99 rfl ?_
                    refine hg_getR grX11_19 dX11_isJoined_100 rfl rfl ?_
                    refine ga_iload dX11_isJoined_103 rfl ?_
                    refine hg_dald dX11_isJoined_105 rfl (by omega) (by omega) ?_
                    refine ga_aload_n dX11_isJoined_106 rfl ?_
                    refine hg_getR grX11_19 dX11_isJoined_107 rfl rfl ?_
                    refine ga_iload dX11_isJoined_110 rfl ?_
                    refine hg_dald dX11_isJoined_112 rfl (by omega) (by omega) ?_
                    refine ga_dadd dX11_isJoined_113 (SzG_n64 (SzG_add zi zj)) ?_
                    refine hg_dast dX11_isJoined_114 rfl (by omega) (by omega) ?_
                    refine ga_aload_n dX11_isJoined_115 rfl ?_
                    refine hg_getR grX11_23 dX11_isJoined_116 rfl rfl ?_
                    refine ga_iload dX11_isJoined_119 rfl ?_
                    refine ga_iconst dX11_isJoined_121 ⟨by decide, by decide⟩ ?_
                    refine hg_zast dX11_isJoined_122 rfl (by omega) (by omega) (by omega) ?_
                    refine ga_iconst dX11_isJoined_123 ⟨by decide, by decide⟩ ?_
                    refine ga_ret (v := some _) ?_ rfl (by decide) (by decide) ⟨dX11_isJoined_124, _, rfl, rfl⟩
                    refine Or.inl ⟨i, j, FST ⟨⟨c_45, c_55, c_72⟩, Or.inl ⟨c_79, c_90⟩⟩, rfl, ?_⟩
                    unfold jR
                    rw [if_pos c_79]
                    rfl
theorem rok_jR {s r : Int} {σ : ga_S} {N D : Nat} {a b : Nat} (hs : rok s σ N D) (ha : a < 30) (hb : b < 30) : rok s (jR s r N σ a b) N D := by
  obtain ⟨h1, hD, hD2, hNN, hN2, hk, hz⟩ := hs
  have za := hz (30 * s + a) (by omega) (by omega)
  have zb := hz (30 * s + b) (by omega) (by omega)
  unfold jR
  split
  · exact ⟨h1, hD, hD2, hNN, hN2, hk, fun x x1 x2 => ga_up_in (f := σ.2 67) (P := SzG) (SzG_add za zb) (hz x x1 x2)⟩
  · exact ⟨h1, hD, hD2, hNN, hN2, hk, fun x x1 x2 => ga_up_in (f := σ.2 67) (P := SzG) (SzG_ser za zb) (hz x x1 x2)⟩
theorem jR_63 {s r : Int} {σ : ga_S} {N : Nat} {a b : Int} : (jR s r N σ a b).1 63 = σ.1 63 := by
  unfold jR
  split <;> rfl
def Jr (s r : Int) (N D : Nat) : Nat → ga_S → ga_S → Prop
  | 0, σ, σ2 => (∀ a b : Nat, a < b → b < D → ¬ CR s r N σ a b) ∧ σ2 = σ
  | n + 1, σ, σ2 => ∃ a b : Nat, FstP (CR s r N σ) D a b ∧ Jr s r N D n (jR s r N σ a b) σ2
theorem ga_up_self {α : Type} {f : Int → α} {i : Int} {x : α} (h : f i = x) : ga_up f i x = f := by
  funext j
  unfold ga_up
  split
  · rename_i e; rw [e, h]
  · rfl
abbrev cd0 (σ : ga_S) (c : Int) : ga_S := stI σ 63 (ga_up (σ.1 63) 0 c)
theorem cd0_self {σ : ga_S} {c : Int} (h : σ.1 63 0 = c) : cd0 σ c = σ := by
  show stI σ 63 (ga_up (σ.1 63) 0 c) = σ
  rw [ga_up_self h, stI_self]
theorem T_X11_join (s r : Int) (σ σ2 : ga_S) (N D n : Nat) (hr : r = 0 ∨ r = 1) (hs : rok s σ N D) (hj : Jr s r N D n (cd0 σ 0) σ2) (hD2 : σ2.1 70 s = D) : ga_Mt 5 0 0 mX11_join [Vr 63, Vi s, Vi r] (HP σ) (gis (some (Vi (sz (fun d => tv (σ2.1 68 (30 * s + d) = 0)) D))) σ2) ga_nox := by
  have h1 := hs.1
  have hD3 := hs.2.2.1
  refine ga_meth [some (Vr 63), some (Vi s), some (Vi r)] rfl rfl (by decide +kernel) (Nat.le_of_ble_eq_true rfl) rfl ?_
  have key : ∀ n : Nat, ∀ τ : ga_S, τ.1 63 0 = 0 → rok s τ N D → Jr s r N D n τ σ2 → ga_W 5 0 0 0 0 mX11_join (gis (some (Vi (sz (fun d => tv (σ2.1 68 (30 * s + d) = 0)) D))) σ2) ga_nox 38 [some (Vr 63), some (Vi s), some (Vi r)] [] (HP τ) := by
    intro n
    induction n with
    | zero =>
      intro τ hc ht hj
      refine ga_aload_n dX11_join_38 rfl ?_
      refine ga_iload_n dX11_join_39 rfl ?_
      refine ga_iload_n dX11_join_40 rfl ?_
      refine hc_VP (T_X11_isJoined s r τ N D hr ht) fX11_isJoined rfl kX11_isJoined lkX11_127 dX11_join_41 rfl rfl rfl rfl rfl rfl rfl rfl ?_
      rintro v h2 (⟨a, b, q1, q2, q3⟩ | ⟨q1, q2, q3⟩)
      · exact absurd q1.2.2.1 (hj.1 a b q1.1 q1.2.1)
      · rw [q2, q3, hj.2]
        rw [hj.2] at hD2
        refine ga_if_eq (tgt := 55) dX11_join_44 rfl (fun c_44 => ?_) (fun c_44 => ?_)
        · refine ga_aload_n dX11_join_55 rfl ?_
          refine ga_iload_n dX11_join_56 rfl ?_
          refine hc_V (T_X11_live s τ D h1 hD2 hD3) fX11_live rfl kX11_live lkX11_130 dX11_join_57 rfl rfl rfl rfl rfl rfl rfl rfl ?_
          refine ga_ret (v := some _) ?_ rfl (by decide) (by decide) ⟨dX11_join_60, _, rfl, rfl⟩
          exact ⟨rfl, rfl⟩
        · exact absurd rfl c_44
    | succ n ih =>
      intro τ hc ht hj
      refine ga_aload_n dX11_join_38 rfl ?_
      refine ga_iload_n dX11_join_39 rfl ?_
      refine ga_iload_n dX11_join_40 rfl ?_
      refine hc_VP (T_X11_isJoined s r τ N D hr ht) fX11_isJoined rfl kX11_isJoined lkX11_127 dX11_join_41 rfl rfl rfl rfl rfl rfl rfl rfl ?_
      rintro v h2 (⟨a, b, q1, q2, q3⟩ | ⟨q1, q2, q3⟩)
      · obtain ⟨a2, b2, f1, f2⟩ := hj
        obtain ⟨e1, e2⟩ := FstP_one q1 f1
        subst e1
        subst e2
        rw [q2, q3]
        refine ga_if_eq (tgt := 55) dX11_join_44 rfl (fun c_44 => ?_) (fun c_44 => ?_)
        · exact absurd c_44 (by decide)
        · refine ga_aload_n dX11_join_47 rfl ?_
          refine ga_iconst dX11_join_48 ⟨by decide, by decide⟩ ?_
          refine hg_putI 0 gfX11_84 dX11_join_49 rfl rfl rfl ?_
          refine ga_goto (tgt := 38) dX11_join_52 rfl ?_
          have e9 : (jR s r N τ a b).1 63 0 = 0 := by rw [jR_63]; exact hc
          have e8 := cd0_self e9
          unfold cd0 at e8
          rw [e8]
          exact ih (jR s r N τ a b) e9 (rok_jR ht (by have := q1.1; have := q1.2.1; omega) (by have := q1.2.1; omega)) f2
      · obtain ⟨a2, b2, f1, f2⟩ := hj
        exact absurd f1.2.2.1 (q1 a2 b2 f1.1 f1.2.1)
  have E : ∀ c : Int, c = 0 → ga_W 5 0 0 0 0 mX11_join (gis (some (Vi (sz (fun d => tv (σ2.1 68 (30 * s + d) = 0)) D))) σ2) ga_nox 26 [some (Vr 63), some (Vi s), some (Vi r)] [Vi c, Vr 63] (HP σ) := by
    intro c hc
    subst hc
    refine hg_putI 0 gfX11_84 dX11_join_26 rfl rfl rfl ?_
    refine ga_aload_n dX11_join_29 rfl ?_
    refine hg_getI 0 grX11_84 dX11_join_30 rfl rfl rfl ?_
    refine ga_if_le (tgt := 38) dX11_join_33 rfl (fun c_33 => ?_) (fun c_33 => ?_)
    · exact key n (cd0 σ 0) (show ga_up (σ.1 63) 0 0 0 = 0 from rfl) hs hj
    · exact absurd (show (cd0 σ 0).1 63 0 ≤ 0 by rw [show (cd0 σ 0).1 63 0 = 0 from rfl]; decide) c_33
  refine ga_aload_n dX11_join_0 rfl ?_
  refine ga_iload_n dX11_join_1 rfl ?_
  refine hc_S (T_X11_isSide s _) fX11_isSide rfl kX11_isSide lkX11_88 dX11_join_2 rfl rfl rfl rfl rfl rfl ?_
  refine ga_if_ne (tgt := 12) dX11_join_5 rfl (fun c_5 => ?_) (fun c_5 => ?_)
  · refine ga_iload_n dX11_join_12 rfl ?_
    refine ga_if_lt (tgt := 21) dX11_join_13 rfl (fun c_13 => ?_) (fun c_13 => ?_)
    · omega
    · refine ga_iload_n dX11_join_16 rfl ?_
      refine ga_iconst dX11_join_17 ⟨by decide, by decide⟩ ?_
      refine ga_icmp_le (tgt := 25) dX11_join_18 rfl (fun c_18 => ?_) (fun c_18 => ?_)
      · refine ga_iconst dX11_join_25 ⟨by decide, by decide⟩ ?_
        exact E 0 rfl
      · omega
  · rw [tv_eq0] at c_5
    exact absurd h1 c_5
theorem T_X11_join_X (s r : Int) (σ : ga_S) (hr : ¬ ((s = 0 ∨ s = 1) ∧ (r = 0 ∨ r = 1))) : ga_Mt 5 0 0 mX11_join [Vr 63, Vi s, Vi r] (HP σ) (gis (some (Vi 0)) (cd0 σ (if s = 0 ∨ s = 1 then 2 else 1))) ga_nox := by
  refine ga_meth [some (Vr 63), some (Vi s), some (Vi r)] rfl rfl (by decide +kernel) (Nat.le_of_ble_eq_true rfl) rfl ?_
  have E : ∀ c : Int, 0 < c → c = (if s = 0 ∨ s = 1 then 2 else 1) → ga_W 5 0 0 0 0 mX11_join (gis (some (Vi 0)) (cd0 σ (if s = 0 ∨ s = 1 then 2 else 1))) ga_nox 26 [some (Vr 63), some (Vi s), some (Vi r)] [Vi c, Vr 63] (HP σ) := by
    intro c c0 hc
    rw [← hc]
    refine hg_putI 0 gfX11_84 dX11_join_26 rfl rfl rfl ?_
    refine ga_aload_n dX11_join_29 rfl ?_
    refine hg_getI 0 grX11_84 dX11_join_30 rfl rfl rfl ?_
    refine ga_if_le (tgt := 38) dX11_join_33 rfl (fun c_33 => ?_) (fun c_33 => ?_)
    · exact absurd (show c ≤ 0 from c_33) (by omega)
    · refine ga_iconst dX11_join_36 ⟨by decide, by decide⟩ ?_
      refine ga_ret (v := some _) ?_ rfl (by decide) (by decide) ⟨dX11_join_37, _, rfl, rfl⟩
      exact ⟨rfl, rfl⟩
  refine ga_aload_n dX11_join_0 rfl ?_
  refine ga_iload_n dX11_join_1 rfl ?_
  refine hc_S (T_X11_isSide s _) fX11_isSide rfl kX11_isSide lkX11_88 dX11_join_2 rfl rfl rfl rfl rfl rfl ?_
  refine ga_if_ne (tgt := 12) dX11_join_5 rfl (fun c_5 => ?_) (fun c_5 => ?_)
  · rw [tv_ne0] at c_5
    refine ga_iload_n dX11_join_12 rfl ?_
    refine ga_if_lt (tgt := 21) dX11_join_13 rfl (fun c_13 => ?_) (fun c_13 => ?_)
    · refine ga_iconst dX11_join_21 ⟨by decide, by decide⟩ ?_
      refine ga_goto (tgt := 26) dX11_join_22 rfl ?_
      exact E 2 (by decide) (by rw [if_pos c_5])
    · refine ga_iload_n dX11_join_16 rfl ?_
      refine ga_iconst dX11_join_17 ⟨by decide, by decide⟩ ?_
      refine ga_icmp_le (tgt := 25) dX11_join_18 rfl (fun c_18 => ?_) (fun c_18 => ?_)
      · omega
      · refine ga_iconst dX11_join_21 ⟨by decide, by decide⟩ ?_
        refine ga_goto (tgt := 26) dX11_join_22 rfl ?_
        exact E 2 (by decide) (by rw [if_pos c_5])
  · rw [tv_eq0] at c_5
    refine ga_iconst dX11_join_8 ⟨by decide, by decide⟩ ?_
    refine ga_goto (tgt := 26) dX11_join_9 rfl ?_
    exact E 1 (by decide) (by rw [if_neg c_5])
