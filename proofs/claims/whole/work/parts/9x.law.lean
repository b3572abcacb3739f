-- the law's walk
abbrev mL_law (L : Nat) (xs : Nat → Int32) : ga_M0 := (yL_law, cL_law, 7, some .boolean, [], some (L, xs))
theorem lc_0 (b : Int) : (if b < b then (1 : Int) else if b = b then 0 else -1) = 0 := by
  rw [if_neg (Int.lt_irrefl b), if_pos rfl]
section Tsw
variable {t mc ms kc ks pc : Nat} {M : ga_M0} {P : ga_Po} {X : ga_Px} {lv : List (Option ga_V)} {st : List ga_V} {h : ga_H}
theorem ga_tswOut {x dflt lo hi : Int} {offs : Array Int} {len tgt : Nat} (hd : decode (ga_b M) pc = .ok (.tableswitch dflt lo hi offs, len)) (hh : x < lo ∨ hi < x) (ht : (pc : Int) + dflt = (tgt : Int)) (k : ga_W t mc ms kc ks M P X tgt lv st h) : ga_W t mc ms kc ks M P X pc lv (Vi x :: st) h := by
  intro p l e R s m args below meth c G tc A ad0 ad n0 H locs ls Q hC hP hl hol hos
  have hx := hC.1
  have hb := hC.2.1
  have hx9 : ga_inI x := hos.head
  refine lv_tableOut hx hb (x := Int32.ofInt x) hd (by rw [ga_toI hx9]; exact hh) ht ?_
  exact k p l e R s m args below meth c G tc A ad0 ad n0 H locs ls Q hC hP hl hol hos.tail
theorem ga_tswIn {x dflt lo hi off : Int} {offs : Array Int} {len tgt : Nat} (hd : decode (ga_b M) pc = .ok (.tableswitch dflt lo hi offs, len)) (h1 : lo ≤ x) (h2 : x ≤ hi) (ho : offs[(x - lo).toNat]? = some off) (ht : (pc : Int) + off = (tgt : Int)) (k : ga_W t mc ms kc ks M P X tgt lv st h) : ga_W t mc ms kc ks M P X pc lv (Vi x :: st) h := by
  intro p l e R s m args below meth c G tc A ad0 ad n0 H locs ls Q hC hP hl hol hos
  have hx := hC.1
  have hb := hC.2.1
  have hx9 : ga_inI x := hos.head
  refine lv_tableIn hx hb (x := Int32.ofInt x) hd (by rw [ga_toI hx9]; omega) (by rw [ga_toI hx9]; omega) (by rw [ga_toI hx9]; exact ho) ht ?_
  exact k p l e R s m args below meth c G tc A ad0 ad n0 H locs ls Q hC hP hl hol hos.tail
end Tsw
theorem and15 (a : Int32) : 0 ≤ (a &&& 15).toInt ∧ (a &&& 15).toInt < 16 := by
  have h : (a &&& 15).toBitVec.toNat ≤ 15 := by
    rw [Int32.toBitVec_and, BitVec.toNat_and]
    exact Nat.and_le_right
  have e : (a &&& 15).toInt = ((a &&& 15).toBitVec.toNat : Int) := BitVec.toInt_eq_toNat_of_lt (by omega)
  omega
theorem law_net {L : Nat} {xs : Nat → Int32} (hL : L ≤ 2560) (i : Nat) (hi : i + 5 ≤ L) (kc ks : Nat) (hkc : kc + 1 ≤ 601024) (hks : ks + 6 ≤ 7293034) (σ : ga_S) (hI : IvO σ) (y5 y6 : Option ga_V) (K : ∀ (kc2 ks2 : Nat) (τ : ga_S) (z5 z6 : Option ga_V), kc2 ≤ kc + 1 → ks2 ≤ ks + 6 → IvO τ → ga_W 11 601024 7293034 kc2 ks2 (mL_law L xs) (fun v _ => v = some (Vi 1)) ga_nox 1011 [some (Vr ga_scr), some (Vr 0), some (Vr 63), some (Vr 88), some (Vi (i : Int)), z5, z6] [] (HP τ)) : ga_W 11 601024 7293034 kc ks (mL_law L xs) (fun v _ => v = some (Vi 1)) ga_nox 108 [some (Vr ga_scr), some (Vr 0), some (Vr 63), some (Vr 88), some (Vi (i : Int)), y5, y6] [] (HP σ) := by
  obtain ⟨ok, bad, ⟨t2, m2, s2, ht, hm, hs, hM⟩, h1, h2⟩ := ST_net ((xs ((i : Int) + 1).toNat).toInt) ((xs ((i : Int) + 2).toNat).toInt) hI
  refine ga_aload_n dL_law_108 rfl ?_
  refine ga_aload_n dL_law_109 rfl ?_
  refine ga_iload dL_law_110 rfl ?_
  refine ga_iconst dL_law_112 ⟨by decide, by decide⟩ ?_
  refine ga_iadd dL_law_113 rfl ⟨by omega, by omega⟩ ?_
  refine ga_sld rfl dL_law_114 (by omega) (by omega) ?_
  refine ga_aload_n dL_law_115 rfl ?_
  refine ga_iload dL_law_116 rfl ?_
  refine ga_iconst dL_law_118 ⟨by decide, by decide⟩ ?_
  refine ga_iadd dL_law_119 rfl ⟨by omega, by omega⟩ ?_
  refine ga_sld rfl dL_law_120 (by omega) (by omega) ?_
  refine ga_aload_n dL_law_121 rfl ?_
  refine ga_callSW (T_L_net ((xs ((i : Int) + 1).toNat).toInt) ((xs ((i : Int) + 2).toNat).toInt) σ ok bad ht hm hs hM) fL_net rfl kL_net lkL_59 dL_law_122 rfl rfl (by decide) (Nat.le_of_ble_eq_true rfl) (by omega) (by omega) ?_
  rintro v h3 (⟨a, σ1, hok, hv, hh⟩ | ⟨c, hbad, c0, hv, hh⟩)
  · rw [hv, hh]
    obtain ⟨hQ, tR, htR, hR⟩ := h1 a σ1 hok
    refine ga_istore (lv2 := [_, _, _, _, _, _, _]) dL_law_125 (show (5 : Nat) < 7 by decide) rfl rfl ?_
    refine ga_aload_n dL_law_127 rfl ?_
    refine ga_aload_n dL_law_128 rfl ?_
    refine ga_iload dL_law_129 rfl ?_
    refine ga_iconst dL_law_131 ⟨by decide, by decide⟩ ?_
    refine ga_iadd dL_law_132 rfl ⟨by omega, by omega⟩ ?_
    refine ga_sld rfl dL_law_133 (by omega) (by omega) ?_
    refine ga_aload_n dL_law_134 rfl ?_
    refine ga_iload dL_law_135 rfl ?_
    refine ga_iconst dL_law_137 ⟨by decide, by decide⟩ ?_
    refine ga_iadd dL_law_138 rfl ⟨by omega, by omega⟩ ?_
    refine ga_sld rfl dL_law_139 (by omega) (by omega) ?_
    refine ga_callV hR fX11_net rfl kX11_net lkL_64 dL_law_140 rfl rfl (by omega) (HP_obj rfl) rfl (Nat.le_of_ble_eq_true rfl) (by omega) (by omega) ?_
    rintro v h3 ⟨b, σ2, hb, hv, hh, h63, h88, hI2⟩
    rw [hv, hh]
    refine ga_istore (lv2 := [_, _, _, _, _, _, _]) dL_law_143 (show (6 : Nat) < 7 by decide) rfl rfl ?_
    refine ga_aload_n dL_law_145 rfl ?_
    refine ga_callV (T_X11_thrown σ2) fX11_thrown rfl kX11_thrown lkL_65 dL_law_146 rfl rfl (by decide) (HP_obj rfl) rfl (Nat.le_of_ble_eq_true rfl) (by omega) (by omega) ?_
    rintro v h3 ⟨hv, hh⟩
    rw [hv, hh, h63]
    refine ga_iload dL_law_149 rfl ?_
    refine ga_icmp_eq (tgt := 156) dL_law_151 rfl (fun _ => ?_) (fun c => absurd rfl c)
    refine ga_iload dL_law_156 rfl ?_
    refine ga_if_ne (tgt := 173) dL_law_158 rfl (fun c => absurd rfl c) (fun _ => ?_)
    refine ga_aload_n dL_law_161 rfl ?_
    refine ga_iconst dL_law_162 ⟨by decide, by decide⟩ ?_
    refine hg_lald dL_law_163 rfl (by decide) (by decide) ?_
    rw [h88 rfl]
    refine ga_iload dL_law_164 rfl ?_
    refine ga_i2l dL_law_166 ?_
    refine ga_lcmp dL_law_167 ?_
    refine ga_if_eq (tgt := 173) dL_law_168 rfl (fun _ => ?_) (fun c => absurd (lc_0 _) c)
    refine ga_goto (tgt := 1011) dL_law_173 rfl ?_
    exact K _ _ σ2 _ _ (by omega) (by omega) hI2
  · rw [hv, hh]
    obtain ⟨tR, htR, hR⟩ := h2 c hbad
    refine ga_istore (lv2 := [_, _, _, _, _, _, _]) dL_law_125 (show (5 : Nat) < 7 by decide) rfl rfl ?_
    refine ga_aload_n dL_law_127 rfl ?_
    refine ga_aload_n dL_law_128 rfl ?_
    refine ga_iload dL_law_129 rfl ?_
    refine ga_iconst dL_law_131 ⟨by decide, by decide⟩ ?_
    refine ga_iadd dL_law_132 rfl ⟨by omega, by omega⟩ ?_
    refine ga_sld rfl dL_law_133 (by omega) (by omega) ?_
    refine ga_aload_n dL_law_134 rfl ?_
    refine ga_iload dL_law_135 rfl ?_
    refine ga_iconst dL_law_137 ⟨by decide, by decide⟩ ?_
    refine ga_iadd dL_law_138 rfl ⟨by omega, by omega⟩ ?_
    refine ga_sld rfl dL_law_139 (by omega) (by omega) ?_
    refine ga_callV hR fX11_net rfl kX11_net lkL_64 dL_law_140 rfl rfl (by omega) (HP_obj rfl) rfl (Nat.le_of_ble_eq_true rfl) (by omega) (by omega) ?_
    rintro v h3 ⟨b, σ2, hb, hv, hh, h63, h88, hI2⟩
    rw [hv, hh]
    refine ga_istore (lv2 := [_, _, _, _, _, _, _]) dL_law_143 (show (6 : Nat) < 7 by decide) rfl rfl ?_
    refine ga_aload_n dL_law_145 rfl ?_
    refine ga_callV (T_X11_thrown σ2) fX11_thrown rfl kX11_thrown lkL_65 dL_law_146 rfl rfl (by decide) (HP_obj rfl) rfl (Nat.le_of_ble_eq_true rfl) (by omega) (by omega) ?_
    rintro v h3 ⟨hv, hh⟩
    rw [hv, hh, h63]
    refine ga_iload dL_law_149 rfl ?_
    refine ga_icmp_eq (tgt := 156) dL_law_151 rfl (fun _ => ?_) (fun c => absurd rfl c)
    refine ga_iload dL_law_156 rfl ?_
    refine ga_if_ne (tgt := 173) dL_law_158 rfl (fun _ => ?_) (fun c => absurd c (by omega))
    refine ga_goto (tgt := 1011) dL_law_173 rfl ?_
    exact K _ _ σ2 _ _ (by omega) (by omega) hI2
theorem law_device {L : Nat} {xs : Nat → Int32} (hL : L ≤ 2560) (i : Nat) (hi : i + 5 ≤ L) (kc ks : Nat) (hkc : kc + 1 ≤ 601024) (hks : ks + 6 ≤ 7293034) (σ : ga_S) (hI : IvO σ) (y5 y6 : Option ga_V) (K : ∀ (kc2 ks2 : Nat) (τ : ga_S) (z5 z6 : Option ga_V), kc2 ≤ kc + 1 → ks2 ≤ ks + 6 → IvO τ → ga_W 11 601024 7293034 kc2 ks2 (mL_law L xs) (fun v _ => v = some (Vi 1)) ga_nox 1011 [some (Vr ga_scr), some (Vr 0), some (Vr 63), some (Vr 88), some (Vi (i : Int)), z5, z6] [] (HP τ)) : ga_W 11 601024 7293034 kc ks (mL_law L xs) (fun v _ => v = some (Vi 1)) ga_nox 176 [some (Vr ga_scr), some (Vr 0), some (Vr 63), some (Vr 88), some (Vi (i : Int)), y5, y6] [] (HP σ) := by
  obtain ⟨ok, bad, ⟨t2, m2, s2, ht, hm, hs, hM⟩, h1, h2⟩ := ST_device ((xs ((i : Int) + 1).toNat).toInt) ((xs ((i : Int) + 2).toNat).toInt) ((Int32.ofInt (xs ((i : Int) + 3).toNat).toInt)) hI
  refine ga_aload_n dL_law_176 rfl ?_
  refine ga_aload_n dL_law_177 rfl ?_
  refine ga_iload dL_law_178 rfl ?_
  refine ga_iconst dL_law_180 ⟨by decide, by decide⟩ ?_
  refine ga_iadd dL_law_181 rfl ⟨by omega, by omega⟩ ?_
  refine ga_sld rfl dL_law_182 (by omega) (by omega) ?_
  refine ga_aload_n dL_law_183 rfl ?_
  refine ga_iload dL_law_184 rfl ?_
  refine ga_iconst dL_law_186 ⟨by decide, by decide⟩ ?_
  refine ga_iadd dL_law_187 rfl ⟨by omega, by omega⟩ ?_
  refine ga_sld rfl dL_law_188 (by omega) (by omega) ?_
  refine ga_aload_n dL_law_189 rfl ?_
  refine ga_iload dL_law_190 rfl ?_
  refine ga_iconst dL_law_192 ⟨by decide, by decide⟩ ?_
  refine ga_iadd dL_law_193 rfl ⟨by omega, by omega⟩ ?_
  refine ga_sld rfl dL_law_194 (by omega) (by omega) ?_
  refine ga_i2d dL_law_195 ?_
  refine ga_ldc2d dL_law_196 cnL_69 ?_
  refine ga_dmul dL_law_199 (eig_n64 _) ?_
  refine ga_aload_n dL_law_200 rfl ?_
  refine ga_callSW (T_L_device ((xs ((i : Int) + 1).toNat).toInt) ((xs ((i : Int) + 2).toNat).toInt) (eig (Int32.ofInt (xs ((i : Int) + 3).toNat).toInt)) σ ok bad ht hm hs hM) fL_device rfl kL_device lkL_71 dL_law_201 rfl rfl (by decide) (Nat.le_of_ble_eq_true rfl) (by omega) (by omega) ?_
  rintro v h3 (⟨a, σ1, hok, hv, hh⟩ | ⟨c, hbad, c0, hv, hh⟩)
  · rw [hv, hh]
    obtain ⟨hQ, tR, htR, hR⟩ := h1 a σ1 hok
    refine ga_istore (lv2 := [_, _, _, _, _, _, _]) dL_law_204 (show (5 : Nat) < 7 by decide) rfl rfl ?_
    refine ga_aload_n dL_law_206 rfl ?_
    refine ga_aload_n dL_law_207 rfl ?_
    refine ga_iload dL_law_208 rfl ?_
    refine ga_iconst dL_law_210 ⟨by decide, by decide⟩ ?_
    refine ga_iadd dL_law_211 rfl ⟨by omega, by omega⟩ ?_
    refine ga_sld rfl dL_law_212 (by omega) (by omega) ?_
    refine ga_aload_n dL_law_213 rfl ?_
    refine ga_iload dL_law_214 rfl ?_
    refine ga_iconst dL_law_216 ⟨by decide, by decide⟩ ?_
    refine ga_iadd dL_law_217 rfl ⟨by omega, by omega⟩ ?_
    refine ga_sld rfl dL_law_218 (by omega) (by omega) ?_
    refine ga_aload_n dL_law_219 rfl ?_
    refine ga_iload dL_law_220 rfl ?_
    refine ga_iconst dL_law_222 ⟨by decide, by decide⟩ ?_
    refine ga_iadd dL_law_223 rfl ⟨by omega, by omega⟩ ?_
    refine ga_sld rfl dL_law_224 (by omega) (by omega) ?_
    refine ga_i2d dL_law_225 ?_
    refine ga_ldc2d dL_law_226 cnL_69 ?_
    refine ga_dmul dL_law_229 (eig_n64 _) ?_
    refine ga_callV hR fX11_device rfl kX11_device lkL_74 dL_law_230 rfl rfl (by omega) (HP_obj rfl) rfl (Nat.le_of_ble_eq_true rfl) (by omega) (by omega) ?_
    rintro v h3 ⟨b, σ2, hb, hv, hh, h63, h88, hI2⟩
    rw [hv, hh]
    refine ga_istore (lv2 := [_, _, _, _, _, _, _]) dL_law_233 (show (6 : Nat) < 7 by decide) rfl rfl ?_
    refine ga_aload_n dL_law_235 rfl ?_
    refine ga_callV (T_X11_thrown σ2) fX11_thrown rfl kX11_thrown lkL_65 dL_law_236 rfl rfl (by decide) (HP_obj rfl) rfl (Nat.le_of_ble_eq_true rfl) (by omega) (by omega) ?_
    rintro v h3 ⟨hv, hh⟩
    rw [hv, hh, h63]
    refine ga_iload dL_law_239 rfl ?_
    refine ga_icmp_eq (tgt := 246) dL_law_241 rfl (fun _ => ?_) (fun c => absurd rfl c)
    refine ga_iload dL_law_246 rfl ?_
    refine ga_if_ne (tgt := 263) dL_law_248 rfl (fun c => absurd rfl c) (fun _ => ?_)
    refine ga_aload_n dL_law_251 rfl ?_
    refine ga_iconst dL_law_252 ⟨by decide, by decide⟩ ?_
    refine hg_lald dL_law_253 rfl (by decide) (by decide) ?_
    rw [h88 rfl]
    refine ga_iload dL_law_254 rfl ?_
    refine ga_i2l dL_law_256 ?_
    refine ga_lcmp dL_law_257 ?_
    refine ga_if_eq (tgt := 263) dL_law_258 rfl (fun _ => ?_) (fun c => absurd (lc_0 _) c)
    refine ga_goto (tgt := 1011) dL_law_263 rfl ?_
    exact K _ _ σ2 _ _ (by omega) (by omega) hI2
  · rw [hv, hh]
    obtain ⟨tR, htR, hR⟩ := h2 c hbad
    refine ga_istore (lv2 := [_, _, _, _, _, _, _]) dL_law_204 (show (5 : Nat) < 7 by decide) rfl rfl ?_
    refine ga_aload_n dL_law_206 rfl ?_
    refine ga_aload_n dL_law_207 rfl ?_
    refine ga_iload dL_law_208 rfl ?_
    refine ga_iconst dL_law_210 ⟨by decide, by decide⟩ ?_
    refine ga_iadd dL_law_211 rfl ⟨by omega, by omega⟩ ?_
    refine ga_sld rfl dL_law_212 (by omega) (by omega) ?_
    refine ga_aload_n dL_law_213 rfl ?_
    refine ga_iload dL_law_214 rfl ?_
    refine ga_iconst dL_law_216 ⟨by decide, by decide⟩ ?_
    refine ga_iadd dL_law_217 rfl ⟨by omega, by omega⟩ ?_
    refine ga_sld rfl dL_law_218 (by omega) (by omega) ?_
    refine ga_aload_n dL_law_219 rfl ?_
    refine ga_iload dL_law_220 rfl ?_
    refine ga_iconst dL_law_222 ⟨by decide, by decide⟩ ?_
    refine ga_iadd dL_law_223 rfl ⟨by omega, by omega⟩ ?_
    refine ga_sld rfl dL_law_224 (by omega) (by omega) ?_
    refine ga_i2d dL_law_225 ?_
    refine ga_ldc2d dL_law_226 cnL_69 ?_
    refine ga_dmul dL_law_229 (eig_n64 _) ?_
    refine ga_callV hR fX11_device rfl kX11_device lkL_74 dL_law_230 rfl rfl (by omega) (HP_obj rfl) rfl (Nat.le_of_ble_eq_true rfl) (by omega) (by omega) ?_
    rintro v h3 ⟨b, σ2, hb, hv, hh, h63, h88, hI2⟩
    rw [hv, hh]
    refine ga_istore (lv2 := [_, _, _, _, _, _, _]) dL_law_233 (show (6 : Nat) < 7 by decide) rfl rfl ?_
    refine ga_aload_n dL_law_235 rfl ?_
    refine ga_callV (T_X11_thrown σ2) fX11_thrown rfl kX11_thrown lkL_65 dL_law_236 rfl rfl (by decide) (HP_obj rfl) rfl (Nat.le_of_ble_eq_true rfl) (by omega) (by omega) ?_
    rintro v h3 ⟨hv, hh⟩
    rw [hv, hh, h63]
    refine ga_iload dL_law_239 rfl ?_
    refine ga_icmp_eq (tgt := 246) dL_law_241 rfl (fun _ => ?_) (fun c => absurd rfl c)
    refine ga_iload dL_law_246 rfl ?_
    refine ga_if_ne (tgt := 263) dL_law_248 rfl (fun _ => ?_) (fun c => absurd c (by omega))
    refine ga_goto (tgt := 1011) dL_law_263 rfl ?_
    exact K _ _ σ2 _ _ (by omega) (by omega) hI2
theorem law_pin {L : Nat} {xs : Nat → Int32} (hL : L ≤ 2560) (i : Nat) (hi : i + 5 ≤ L) (kc ks : Nat) (hkc : kc + 1 ≤ 601024) (hks : ks + 6 ≤ 7293034) (σ : ga_S) (hI : IvO σ) (y5 y6 : Option ga_V) (K : ∀ (kc2 ks2 : Nat) (τ : ga_S) (z5 z6 : Option ga_V), kc2 ≤ kc + 1 → ks2 ≤ ks + 6 → IvO τ → ga_W 11 601024 7293034 kc2 ks2 (mL_law L xs) (fun v _ => v = some (Vi 1)) ga_nox 1011 [some (Vr ga_scr), some (Vr 0), some (Vr 63), some (Vr 88), some (Vi (i : Int)), z5, z6] [] (HP τ)) : ga_W 11 601024 7293034 kc ks (mL_law L xs) (fun v _ => v = some (Vi 1)) ga_nox 266 [some (Vr ga_scr), some (Vr 0), some (Vr 63), some (Vr 88), some (Vi (i : Int)), y5, y6] [] (HP σ) := by
  obtain ⟨ok, bad, ⟨t2, m2, s2, ht, hm, hs, hM⟩, h1, h2⟩ := ST_pin ((xs ((i : Int) + 1).toNat).toInt) ((xs ((i : Int) + 2).toNat).toInt) ((xs ((i : Int) + 3).toNat).toInt) ((xs ((i : Int) + 4).toNat).toInt) hI
  refine ga_aload_n dL_law_266 rfl ?_
  refine ga_aload_n dL_law_267 rfl ?_
  refine ga_iload dL_law_268 rfl ?_
  refine ga_iconst dL_law_270 ⟨by decide, by decide⟩ ?_
  refine ga_iadd dL_law_271 rfl ⟨by omega, by omega⟩ ?_
  refine ga_sld rfl dL_law_272 (by omega) (by omega) ?_
  refine ga_aload_n dL_law_273 rfl ?_
  refine ga_iload dL_law_274 rfl ?_
  refine ga_iconst dL_law_276 ⟨by decide, by decide⟩ ?_
  refine ga_iadd dL_law_277 rfl ⟨by omega, by omega⟩ ?_
  refine ga_sld rfl dL_law_278 (by omega) (by omega) ?_
  refine ga_aload_n dL_law_279 rfl ?_
  refine ga_iload dL_law_280 rfl ?_
  refine ga_iconst dL_law_282 ⟨by decide, by decide⟩ ?_
  refine ga_iadd dL_law_283 rfl ⟨by omega, by omega⟩ ?_
  refine ga_sld rfl dL_law_284 (by omega) (by omega) ?_
  refine ga_aload_n dL_law_285 rfl ?_
  refine ga_iload dL_law_286 rfl ?_
  refine ga_iconst dL_law_288 ⟨by decide, by decide⟩ ?_
  refine ga_iadd dL_law_289 rfl ⟨by omega, by omega⟩ ?_
  refine ga_sld rfl dL_law_290 (by omega) (by omega) ?_
  refine ga_aload_n dL_law_291 rfl ?_
  refine ga_callSW (T_L_pin ((xs ((i : Int) + 1).toNat).toInt) ((xs ((i : Int) + 2).toNat).toInt) ((xs ((i : Int) + 3).toNat).toInt) ((xs ((i : Int) + 4).toNat).toInt) σ ok bad (fun a σ1 w => (h1 a σ1 w).1) ht hm hs hM) fL_pin rfl kL_pin lkL_75 dL_law_292 rfl rfl (by decide) (Nat.le_of_ble_eq_true rfl) (by omega) (by omega) ?_
  rintro v h3 (⟨a, σ1, hok, hv, hh⟩ | ⟨c, hbad, c0, hv, hh⟩)
  · rw [hv, hh]
    obtain ⟨hQ, tR, htR, hR⟩ := h1 a σ1 hok
    refine ga_istore (lv2 := [_, _, _, _, _, _, _]) dL_law_295 (show (5 : Nat) < 7 by decide) rfl rfl ?_
    refine ga_aload_n dL_law_297 rfl ?_
    refine ga_aload_n dL_law_298 rfl ?_
    refine ga_iload dL_law_299 rfl ?_
    refine ga_iconst dL_law_301 ⟨by decide, by decide⟩ ?_
    refine ga_iadd dL_law_302 rfl ⟨by omega, by omega⟩ ?_
    refine ga_sld rfl dL_law_303 (by omega) (by omega) ?_
    refine ga_aload_n dL_law_304 rfl ?_
    refine ga_iload dL_law_305 rfl ?_
    refine ga_iconst dL_law_307 ⟨by decide, by decide⟩ ?_
    refine ga_iadd dL_law_308 rfl ⟨by omega, by omega⟩ ?_
    refine ga_sld rfl dL_law_309 (by omega) (by omega) ?_
    refine ga_aload_n dL_law_310 rfl ?_
    refine ga_iload dL_law_311 rfl ?_
    refine ga_iconst dL_law_313 ⟨by decide, by decide⟩ ?_
    refine ga_iadd dL_law_314 rfl ⟨by omega, by omega⟩ ?_
    refine ga_sld rfl dL_law_315 (by omega) (by omega) ?_
    refine ga_aload_n dL_law_316 rfl ?_
    refine ga_iload dL_law_317 rfl ?_
    refine ga_iconst dL_law_319 ⟨by decide, by decide⟩ ?_
    refine ga_iadd dL_law_320 rfl ⟨by omega, by omega⟩ ?_
    refine ga_sld rfl dL_law_321 (by omega) (by omega) ?_
    refine ga_callV hR fX11_pin rfl kX11_pin lkL_78 dL_law_322 rfl rfl (by omega) (HP_obj rfl) rfl (Nat.le_of_ble_eq_true rfl) (by omega) (by omega) ?_
    rintro v h3 ⟨b, σ2, hb, hv, hh, h63, h88, hI2⟩
    rw [hv, hh]
    refine ga_istore (lv2 := [_, _, _, _, _, _, _]) dL_law_325 (show (6 : Nat) < 7 by decide) rfl rfl ?_
    refine ga_aload_n dL_law_327 rfl ?_
    refine ga_callV (T_X11_thrown σ2) fX11_thrown rfl kX11_thrown lkL_65 dL_law_328 rfl rfl (by decide) (HP_obj rfl) rfl (Nat.le_of_ble_eq_true rfl) (by omega) (by omega) ?_
    rintro v h3 ⟨hv, hh⟩
    rw [hv, hh, h63]
    refine ga_iload dL_law_331 rfl ?_
    refine ga_icmp_eq (tgt := 338) dL_law_333 rfl (fun _ => ?_) (fun c => absurd rfl c)
    refine ga_iload dL_law_338 rfl ?_
    refine ga_if_ne (tgt := 362) dL_law_340 rfl (fun c => absurd rfl c) (fun _ => ?_)
    refine ga_aload_n dL_law_343 rfl ?_
    refine ga_iconst dL_law_344 ⟨by decide, by decide⟩ ?_
    refine hg_lald dL_law_345 rfl (by decide) (by decide) ?_
    rw [h88 rfl]
    refine ga_iload dL_law_346 rfl ?_
    have hb1 : b = 0 ∨ b = 1 := by have hb2 : b = a := hb; have hq : a = 0 ∨ a = 1 := hQ; omega
    rcases hb1 with q | q
    · subst q
      refine ga_if_eq (tgt := 355) dL_law_348 rfl (fun _ => ?_) (fun c => absurd rfl c)
      refine ga_lconst (z := 0) dL_law_355 ⟨by decide, by decide⟩ rfl ?_
      refine ga_lcmp dL_law_356 ?_
      refine ga_if_eq (tgt := 362) dL_law_357 rfl (fun _ => ?_) (fun c => absurd (lc_0 _) c)
      refine ga_goto (tgt := 1011) dL_law_362 rfl ?_
      exact K _ _ σ2 _ _ (by omega) (by omega) hI2
    · subst q
      refine ga_if_eq (tgt := 355) dL_law_348 rfl (fun c => absurd c (by decide)) (fun _ => ?_)
      refine ga_lconst (z := 1) dL_law_351 ⟨by decide, by decide⟩ rfl ?_
      refine ga_goto (tgt := 356) dL_law_352 rfl ?_
      refine ga_lcmp dL_law_356 ?_
      refine ga_if_eq (tgt := 362) dL_law_357 rfl (fun _ => ?_) (fun c => absurd (lc_0 _) c)
      refine ga_goto (tgt := 1011) dL_law_362 rfl ?_
      exact K _ _ σ2 _ _ (by omega) (by omega) hI2
  · rw [hv, hh]
    obtain ⟨tR, htR, hR⟩ := h2 c hbad
    refine ga_istore (lv2 := [_, _, _, _, _, _, _]) dL_law_295 (show (5 : Nat) < 7 by decide) rfl rfl ?_
    refine ga_aload_n dL_law_297 rfl ?_
    refine ga_aload_n dL_law_298 rfl ?_
    refine ga_iload dL_law_299 rfl ?_
    refine ga_iconst dL_law_301 ⟨by decide, by decide⟩ ?_
    refine ga_iadd dL_law_302 rfl ⟨by omega, by omega⟩ ?_
    refine ga_sld rfl dL_law_303 (by omega) (by omega) ?_
    refine ga_aload_n dL_law_304 rfl ?_
    refine ga_iload dL_law_305 rfl ?_
    refine ga_iconst dL_law_307 ⟨by decide, by decide⟩ ?_
    refine ga_iadd dL_law_308 rfl ⟨by omega, by omega⟩ ?_
    refine ga_sld rfl dL_law_309 (by omega) (by omega) ?_
    refine ga_aload_n dL_law_310 rfl ?_
    refine ga_iload dL_law_311 rfl ?_
    refine ga_iconst dL_law_313 ⟨by decide, by decide⟩ ?_
    refine ga_iadd dL_law_314 rfl ⟨by omega, by omega⟩ ?_
    refine ga_sld rfl dL_law_315 (by omega) (by omega) ?_
    refine ga_aload_n dL_law_316 rfl ?_
    refine ga_iload dL_law_317 rfl ?_
    refine ga_iconst dL_law_319 ⟨by decide, by decide⟩ ?_
    refine ga_iadd dL_law_320 rfl ⟨by omega, by omega⟩ ?_
    refine ga_sld rfl dL_law_321 (by omega) (by omega) ?_
    refine ga_callV hR fX11_pin rfl kX11_pin lkL_78 dL_law_322 rfl rfl (by omega) (HP_obj rfl) rfl (Nat.le_of_ble_eq_true rfl) (by omega) (by omega) ?_
    rintro v h3 ⟨b, σ2, hb, hv, hh, h63, h88, hI2⟩
    rw [hv, hh]
    refine ga_istore (lv2 := [_, _, _, _, _, _, _]) dL_law_325 (show (6 : Nat) < 7 by decide) rfl rfl ?_
    refine ga_aload_n dL_law_327 rfl ?_
    refine ga_callV (T_X11_thrown σ2) fX11_thrown rfl kX11_thrown lkL_65 dL_law_328 rfl rfl (by decide) (HP_obj rfl) rfl (Nat.le_of_ble_eq_true rfl) (by omega) (by omega) ?_
    rintro v h3 ⟨hv, hh⟩
    rw [hv, hh, h63]
    refine ga_iload dL_law_331 rfl ?_
    refine ga_icmp_eq (tgt := 338) dL_law_333 rfl (fun _ => ?_) (fun c => absurd rfl c)
    refine ga_iload dL_law_338 rfl ?_
    refine ga_if_ne (tgt := 362) dL_law_340 rfl (fun _ => ?_) (fun c => absurd c (by omega))
    refine ga_goto (tgt := 1011) dL_law_362 rfl ?_
    exact K _ _ σ2 _ _ (by omega) (by omega) hI2
theorem law_swap {L : Nat} {xs : Nat → Int32} (hL : L ≤ 2560) (i : Nat) (hi : i + 5 ≤ L) (kc ks : Nat) (hkc : kc + 1 ≤ 601024) (hks : ks + 6 ≤ 7293034) (σ : ga_S) (hI : IvO σ) (y5 y6 : Option ga_V) (K : ∀ (kc2 ks2 : Nat) (τ : ga_S) (z5 z6 : Option ga_V), kc2 ≤ kc + 1 → ks2 ≤ ks + 6 → IvO τ → ga_W 11 601024 7293034 kc2 ks2 (mL_law L xs) (fun v _ => v = some (Vi 1)) ga_nox 1011 [some (Vr ga_scr), some (Vr 0), some (Vr 63), some (Vr 88), some (Vi (i : Int)), z5, z6] [] (HP τ)) : ga_W 11 601024 7293034 kc ks (mL_law L xs) (fun v _ => v = some (Vi 1)) ga_nox 365 [some (Vr ga_scr), some (Vr 0), some (Vr 63), some (Vr 88), some (Vi (i : Int)), y5, y6] [] (HP σ) := by
  obtain ⟨ok, bad, ⟨t2, m2, s2, ht, hm, hs, hM⟩, h1, h2⟩ := ST_swap ((xs ((i : Int) + 1).toNat).toInt) ((xs ((i : Int) + 2).toNat).toInt) ((xs ((i : Int) + 3).toNat).toInt) hI
  refine ga_aload_n dL_law_365 rfl ?_
  refine ga_aload_n dL_law_366 rfl ?_
  refine ga_iload dL_law_367 rfl ?_
  refine ga_iconst dL_law_369 ⟨by decide, by decide⟩ ?_
  refine ga_iadd dL_law_370 rfl ⟨by omega, by omega⟩ ?_
  refine ga_sld rfl dL_law_371 (by omega) (by omega) ?_
  refine ga_aload_n dL_law_372 rfl ?_
  refine ga_iload dL_law_373 rfl ?_
  refine ga_iconst dL_law_375 ⟨by decide, by decide⟩ ?_
  refine ga_iadd dL_law_376 rfl ⟨by omega, by omega⟩ ?_
  refine ga_sld rfl dL_law_377 (by omega) (by omega) ?_
  refine ga_aload_n dL_law_378 rfl ?_
  refine ga_iload dL_law_379 rfl ?_
  refine ga_iconst dL_law_381 ⟨by decide, by decide⟩ ?_
  refine ga_iadd dL_law_382 rfl ⟨by omega, by omega⟩ ?_
  refine ga_sld rfl dL_law_383 (by omega) (by omega) ?_
  refine ga_aload_n dL_law_384 rfl ?_
  refine ga_callSW (T_L_swap ((xs ((i : Int) + 1).toNat).toInt) ((xs ((i : Int) + 2).toNat).toInt) ((xs ((i : Int) + 3).toNat).toInt) σ ok bad (fun a σ1 w => (h1 a σ1 w).1) ht hm hs hM) fL_swap rfl kL_swap lkL_79 dL_law_385 rfl rfl (by decide) (Nat.le_of_ble_eq_true rfl) (by omega) (by omega) ?_
  rintro v h3 (⟨a, σ1, hok, hv, hh⟩ | ⟨c, hbad, c0, hv, hh⟩)
  · rw [hv, hh]
    obtain ⟨hQ, tR, htR, hR⟩ := h1 a σ1 hok
    refine ga_istore (lv2 := [_, _, _, _, _, _, _]) dL_law_388 (show (5 : Nat) < 7 by decide) rfl rfl ?_
    refine ga_aload_n dL_law_390 rfl ?_
    refine ga_aload_n dL_law_391 rfl ?_
    refine ga_iload dL_law_392 rfl ?_
    refine ga_iconst dL_law_394 ⟨by decide, by decide⟩ ?_
    refine ga_iadd dL_law_395 rfl ⟨by omega, by omega⟩ ?_
    refine ga_sld rfl dL_law_396 (by omega) (by omega) ?_
    refine ga_aload_n dL_law_397 rfl ?_
    refine ga_iload dL_law_398 rfl ?_
    refine ga_iconst dL_law_400 ⟨by decide, by decide⟩ ?_
    refine ga_iadd dL_law_401 rfl ⟨by omega, by omega⟩ ?_
    refine ga_sld rfl dL_law_402 (by omega) (by omega) ?_
    refine ga_aload_n dL_law_403 rfl ?_
    refine ga_iload dL_law_404 rfl ?_
    refine ga_iconst dL_law_406 ⟨by decide, by decide⟩ ?_
    refine ga_iadd dL_law_407 rfl ⟨by omega, by omega⟩ ?_
    refine ga_sld rfl dL_law_408 (by omega) (by omega) ?_
    refine ga_callV hR fX11_swap rfl kX11_swap lkL_82 dL_law_409 rfl rfl (by omega) (HP_obj rfl) rfl (Nat.le_of_ble_eq_true rfl) (by omega) (by omega) ?_
    rintro v h3 ⟨b, σ2, hb, hv, hh, h63, h88, hI2⟩
    rw [hv, hh]
    refine ga_istore (lv2 := [_, _, _, _, _, _, _]) dL_law_412 (show (6 : Nat) < 7 by decide) rfl rfl ?_
    refine ga_aload_n dL_law_414 rfl ?_
    refine ga_callV (T_X11_thrown σ2) fX11_thrown rfl kX11_thrown lkL_65 dL_law_415 rfl rfl (by decide) (HP_obj rfl) rfl (Nat.le_of_ble_eq_true rfl) (by omega) (by omega) ?_
    rintro v h3 ⟨hv, hh⟩
    rw [hv, hh, h63]
    refine ga_iload dL_law_418 rfl ?_
    refine ga_icmp_eq (tgt := 425) dL_law_420 rfl (fun _ => ?_) (fun c => absurd rfl c)
    refine ga_iload dL_law_425 rfl ?_
    refine ga_if_ne (tgt := 449) dL_law_427 rfl (fun c => absurd rfl c) (fun _ => ?_)
    refine ga_aload_n dL_law_430 rfl ?_
    refine ga_iconst dL_law_431 ⟨by decide, by decide⟩ ?_
    refine hg_lald dL_law_432 rfl (by decide) (by decide) ?_
    rw [h88 rfl]
    refine ga_iload dL_law_433 rfl ?_
    have hb1 : b = 0 ∨ b = 1 := by have hb2 : b = a := hb; have hq : a = 0 ∨ a = 1 := hQ; omega
    rcases hb1 with q | q
    · subst q
      refine ga_if_eq (tgt := 442) dL_law_435 rfl (fun _ => ?_) (fun c => absurd rfl c)
      refine ga_lconst (z := 0) dL_law_442 ⟨by decide, by decide⟩ rfl ?_
      refine ga_lcmp dL_law_443 ?_
      refine ga_if_eq (tgt := 449) dL_law_444 rfl (fun _ => ?_) (fun c => absurd (lc_0 _) c)
      refine ga_goto (tgt := 1011) dL_law_449 rfl ?_
      exact K _ _ σ2 _ _ (by omega) (by omega) hI2
    · subst q
      refine ga_if_eq (tgt := 442) dL_law_435 rfl (fun c => absurd c (by decide)) (fun _ => ?_)
      refine ga_lconst (z := 1) dL_law_438 ⟨by decide, by decide⟩ rfl ?_
      refine ga_goto (tgt := 443) dL_law_439 rfl ?_
      refine ga_lcmp dL_law_443 ?_
      refine ga_if_eq (tgt := 449) dL_law_444 rfl (fun _ => ?_) (fun c => absurd (lc_0 _) c)
      refine ga_goto (tgt := 1011) dL_law_449 rfl ?_
      exact K _ _ σ2 _ _ (by omega) (by omega) hI2
  · rw [hv, hh]
    obtain ⟨tR, htR, hR⟩ := h2 c hbad
    refine ga_istore (lv2 := [_, _, _, _, _, _, _]) dL_law_388 (show (5 : Nat) < 7 by decide) rfl rfl ?_
    refine ga_aload_n dL_law_390 rfl ?_
    refine ga_aload_n dL_law_391 rfl ?_
    refine ga_iload dL_law_392 rfl ?_
    refine ga_iconst dL_law_394 ⟨by decide, by decide⟩ ?_
    refine ga_iadd dL_law_395 rfl ⟨by omega, by omega⟩ ?_
    refine ga_sld rfl dL_law_396 (by omega) (by omega) ?_
    refine ga_aload_n dL_law_397 rfl ?_
    refine ga_iload dL_law_398 rfl ?_
    refine ga_iconst dL_law_400 ⟨by decide, by decide⟩ ?_
    refine ga_iadd dL_law_401 rfl ⟨by omega, by omega⟩ ?_
    refine ga_sld rfl dL_law_402 (by omega) (by omega) ?_
    refine ga_aload_n dL_law_403 rfl ?_
    refine ga_iload dL_law_404 rfl ?_
    refine ga_iconst dL_law_406 ⟨by decide, by decide⟩ ?_
    refine ga_iadd dL_law_407 rfl ⟨by omega, by omega⟩ ?_
    refine ga_sld rfl dL_law_408 (by omega) (by omega) ?_
    refine ga_callV hR fX11_swap rfl kX11_swap lkL_82 dL_law_409 rfl rfl (by omega) (HP_obj rfl) rfl (Nat.le_of_ble_eq_true rfl) (by omega) (by omega) ?_
    rintro v h3 ⟨b, σ2, hb, hv, hh, h63, h88, hI2⟩
    rw [hv, hh]
    refine ga_istore (lv2 := [_, _, _, _, _, _, _]) dL_law_412 (show (6 : Nat) < 7 by decide) rfl rfl ?_
    refine ga_aload_n dL_law_414 rfl ?_
    refine ga_callV (T_X11_thrown σ2) fX11_thrown rfl kX11_thrown lkL_65 dL_law_415 rfl rfl (by decide) (HP_obj rfl) rfl (Nat.le_of_ble_eq_true rfl) (by omega) (by omega) ?_
    rintro v h3 ⟨hv, hh⟩
    rw [hv, hh, h63]
    refine ga_iload dL_law_418 rfl ?_
    refine ga_icmp_eq (tgt := 425) dL_law_420 rfl (fun _ => ?_) (fun c => absurd rfl c)
    refine ga_iload dL_law_425 rfl ?_
    refine ga_if_ne (tgt := 449) dL_law_427 rfl (fun _ => ?_) (fun c => absurd c (by omega))
    refine ga_goto (tgt := 1011) dL_law_449 rfl ?_
    exact K _ _ σ2 _ _ (by omega) (by omega) hI2
theorem law_share {L : Nat} {xs : Nat → Int32} (hL : L ≤ 2560) (i : Nat) (hi : i + 5 ≤ L) (kc ks : Nat) (hkc : kc + 1 ≤ 601024) (hks : ks + 6 ≤ 7293034) (σ : ga_S) (hI : IvO σ) (y5 y6 : Option ga_V) (K : ∀ (kc2 ks2 : Nat) (τ : ga_S) (z5 z6 : Option ga_V), kc2 ≤ kc + 1 → ks2 ≤ ks + 6 → IvO τ → ga_W 11 601024 7293034 kc2 ks2 (mL_law L xs) (fun v _ => v = some (Vi 1)) ga_nox 1011 [some (Vr ga_scr), some (Vr 0), some (Vr 63), some (Vr 88), some (Vi (i : Int)), z5, z6] [] (HP τ)) : ga_W 11 601024 7293034 kc ks (mL_law L xs) (fun v _ => v = some (Vi 1)) ga_nox 452 [some (Vr ga_scr), some (Vr 0), some (Vr 63), some (Vr 88), some (Vi (i : Int)), y5, y6] [] (HP σ) := by
  obtain ⟨ok, bad, ⟨t2, m2, s2, ht, hm, hs, hM⟩, h1, h2⟩ := ST_share ((xs ((i : Int) + 1).toNat).toInt) ((Int32.ofInt (xs ((i : Int) + 2).toNat).toInt)) hI
  refine ga_aload_n dL_law_452 rfl ?_
  refine ga_aload_n dL_law_453 rfl ?_
  refine ga_iload dL_law_454 rfl ?_
  refine ga_iconst dL_law_456 ⟨by decide, by decide⟩ ?_
  refine ga_iadd dL_law_457 rfl ⟨by omega, by omega⟩ ?_
  refine ga_sld rfl dL_law_458 (by omega) (by omega) ?_
  refine ga_aload_n dL_law_459 rfl ?_
  refine ga_iload dL_law_460 rfl ?_
  refine ga_iconst dL_law_462 ⟨by decide, by decide⟩ ?_
  refine ga_iadd dL_law_463 rfl ⟨by omega, by omega⟩ ?_
  refine ga_sld rfl dL_law_464 (by omega) (by omega) ?_
  refine ga_i2d dL_law_465 ?_
  refine ga_ldc2d dL_law_466 cnL_69 ?_
  refine ga_dmul dL_law_469 (eig_n64 _) ?_
  refine ga_aload_n dL_law_470 rfl ?_
  refine ga_callSW (T_L_share ((xs ((i : Int) + 1).toNat).toInt) (eig (Int32.ofInt (xs ((i : Int) + 2).toNat).toInt)) σ ok bad (fun a σ1 w => (h1 a σ1 w).1) ht hm hs hM) fL_share rfl kL_share lkL_83 dL_law_471 rfl rfl (by decide) (Nat.le_of_ble_eq_true rfl) (by omega) (by omega) ?_
  rintro v h3 (⟨a, σ1, hok, hv, hh⟩ | ⟨c, hbad, c0, hv, hh⟩)
  · rw [hv, hh]
    obtain ⟨hQ, tR, htR, hR⟩ := h1 a σ1 hok
    refine ga_istore (lv2 := [_, _, _, _, _, _, _]) dL_law_474 (show (5 : Nat) < 7 by decide) rfl rfl ?_
    refine ga_aload_n dL_law_476 rfl ?_
    refine ga_aload_n dL_law_477 rfl ?_
    refine ga_iload dL_law_478 rfl ?_
    refine ga_iconst dL_law_480 ⟨by decide, by decide⟩ ?_
    refine ga_iadd dL_law_481 rfl ⟨by omega, by omega⟩ ?_
    refine ga_sld rfl dL_law_482 (by omega) (by omega) ?_
    refine ga_aload_n dL_law_483 rfl ?_
    refine ga_iload dL_law_484 rfl ?_
    refine ga_iconst dL_law_486 ⟨by decide, by decide⟩ ?_
    refine ga_iadd dL_law_487 rfl ⟨by omega, by omega⟩ ?_
    refine ga_sld rfl dL_law_488 (by omega) (by omega) ?_
    refine ga_i2d dL_law_489 ?_
    refine ga_ldc2d dL_law_490 cnL_69 ?_
    refine ga_dmul dL_law_493 (eig_n64 _) ?_
    refine ga_callV hR fX11_share rfl kX11_share lkL_86 dL_law_494 rfl rfl (by omega) (HP_obj rfl) rfl (Nat.le_of_ble_eq_true rfl) (by omega) (by omega) ?_
    rintro v h3 ⟨b, σ2, hb, hv, hh, h63, h88, hI2⟩
    rw [hv, hh]
    refine ga_istore (lv2 := [_, _, _, _, _, _, _]) dL_law_497 (show (6 : Nat) < 7 by decide) rfl rfl ?_
    refine ga_aload_n dL_law_499 rfl ?_
    refine ga_callV (T_X11_thrown σ2) fX11_thrown rfl kX11_thrown lkL_65 dL_law_500 rfl rfl (by decide) (HP_obj rfl) rfl (Nat.le_of_ble_eq_true rfl) (by omega) (by omega) ?_
    rintro v h3 ⟨hv, hh⟩
    rw [hv, hh, h63]
    refine ga_iload dL_law_503 rfl ?_
    refine ga_icmp_eq (tgt := 510) dL_law_505 rfl (fun _ => ?_) (fun c => absurd rfl c)
    refine ga_iload dL_law_510 rfl ?_
    refine ga_if_ne (tgt := 534) dL_law_512 rfl (fun c => absurd rfl c) (fun _ => ?_)
    refine ga_aload_n dL_law_515 rfl ?_
    refine ga_iconst dL_law_516 ⟨by decide, by decide⟩ ?_
    refine hg_lald dL_law_517 rfl (by decide) (by decide) ?_
    rw [h88 rfl]
    refine ga_iload dL_law_518 rfl ?_
    have hb1 : b = 0 ∨ b = 1 := by have hb2 : b = a := hb; have hq : a = 0 ∨ a = 1 := hQ; omega
    rcases hb1 with q | q
    · subst q
      refine ga_if_eq (tgt := 527) dL_law_520 rfl (fun _ => ?_) (fun c => absurd rfl c)
      refine ga_lconst (z := 0) dL_law_527 ⟨by decide, by decide⟩ rfl ?_
      refine ga_lcmp dL_law_528 ?_
      refine ga_if_eq (tgt := 534) dL_law_529 rfl (fun _ => ?_) (fun c => absurd (lc_0 _) c)
      refine ga_goto (tgt := 1011) dL_law_534 rfl ?_
      exact K _ _ σ2 _ _ (by omega) (by omega) hI2
    · subst q
      refine ga_if_eq (tgt := 527) dL_law_520 rfl (fun c => absurd c (by decide)) (fun _ => ?_)
      refine ga_lconst (z := 1) dL_law_523 ⟨by decide, by decide⟩ rfl ?_
      refine ga_goto (tgt := 528) dL_law_524 rfl ?_
      refine ga_lcmp dL_law_528 ?_
      refine ga_if_eq (tgt := 534) dL_law_529 rfl (fun _ => ?_) (fun c => absurd (lc_0 _) c)
      refine ga_goto (tgt := 1011) dL_law_534 rfl ?_
      exact K _ _ σ2 _ _ (by omega) (by omega) hI2
  · rw [hv, hh]
    obtain ⟨tR, htR, hR⟩ := h2 c hbad
    refine ga_istore (lv2 := [_, _, _, _, _, _, _]) dL_law_474 (show (5 : Nat) < 7 by decide) rfl rfl ?_
    refine ga_aload_n dL_law_476 rfl ?_
    refine ga_aload_n dL_law_477 rfl ?_
    refine ga_iload dL_law_478 rfl ?_
    refine ga_iconst dL_law_480 ⟨by decide, by decide⟩ ?_
    refine ga_iadd dL_law_481 rfl ⟨by omega, by omega⟩ ?_
    refine ga_sld rfl dL_law_482 (by omega) (by omega) ?_
    refine ga_aload_n dL_law_483 rfl ?_
    refine ga_iload dL_law_484 rfl ?_
    refine ga_iconst dL_law_486 ⟨by decide, by decide⟩ ?_
    refine ga_iadd dL_law_487 rfl ⟨by omega, by omega⟩ ?_
    refine ga_sld rfl dL_law_488 (by omega) (by omega) ?_
    refine ga_i2d dL_law_489 ?_
    refine ga_ldc2d dL_law_490 cnL_69 ?_
    refine ga_dmul dL_law_493 (eig_n64 _) ?_
    refine ga_callV hR fX11_share rfl kX11_share lkL_86 dL_law_494 rfl rfl (by omega) (HP_obj rfl) rfl (Nat.le_of_ble_eq_true rfl) (by omega) (by omega) ?_
    rintro v h3 ⟨b, σ2, hb, hv, hh, h63, h88, hI2⟩
    rw [hv, hh]
    refine ga_istore (lv2 := [_, _, _, _, _, _, _]) dL_law_497 (show (6 : Nat) < 7 by decide) rfl rfl ?_
    refine ga_aload_n dL_law_499 rfl ?_
    refine ga_callV (T_X11_thrown σ2) fX11_thrown rfl kX11_thrown lkL_65 dL_law_500 rfl rfl (by decide) (HP_obj rfl) rfl (Nat.le_of_ble_eq_true rfl) (by omega) (by omega) ?_
    rintro v h3 ⟨hv, hh⟩
    rw [hv, hh, h63]
    refine ga_iload dL_law_503 rfl ?_
    refine ga_icmp_eq (tgt := 510) dL_law_505 rfl (fun _ => ?_) (fun c => absurd rfl c)
    refine ga_iload dL_law_510 rfl ?_
    refine ga_if_ne (tgt := 534) dL_law_512 rfl (fun _ => ?_) (fun c => absurd c (by omega))
    refine ga_goto (tgt := 1011) dL_law_534 rfl ?_
    exact K _ _ σ2 _ _ (by omega) (by omega) hI2
theorem law_port {L : Nat} {xs : Nat → Int32} (hL : L ≤ 2560) (i : Nat) (hi : i + 5 ≤ L) (kc ks : Nat) (hkc : kc + 1 ≤ 601024) (hks : ks + 6 ≤ 7293034) (σ : ga_S) (hI : IvO σ) (y5 y6 : Option ga_V) (K : ∀ (kc2 ks2 : Nat) (τ : ga_S) (z5 z6 : Option ga_V), kc2 ≤ kc + 1 → ks2 ≤ ks + 6 → IvO τ → ga_W 11 601024 7293034 kc2 ks2 (mL_law L xs) (fun v _ => v = some (Vi 1)) ga_nox 1011 [some (Vr ga_scr), some (Vr 0), some (Vr 63), some (Vr 88), some (Vi (i : Int)), z5, z6] [] (HP τ)) : ga_W 11 601024 7293034 kc ks (mL_law L xs) (fun v _ => v = some (Vi 1)) ga_nox 537 [some (Vr ga_scr), some (Vr 0), some (Vr 63), some (Vr 88), some (Vi (i : Int)), y5, y6] [] (HP σ) := by
  obtain ⟨ok, bad, ⟨t2, m2, s2, ht, hm, hs, hM⟩, h1, h2⟩ := ST_port ((xs ((i : Int) + 1).toNat).toInt) ((xs ((i : Int) + 2).toNat).toInt) ((xs ((i : Int) + 3).toNat).toInt) hI
  refine ga_aload_n dL_law_537 rfl ?_
  refine ga_aload_n dL_law_538 rfl ?_
  refine ga_iload dL_law_539 rfl ?_
  refine ga_iconst dL_law_541 ⟨by decide, by decide⟩ ?_
  refine ga_iadd dL_law_542 rfl ⟨by omega, by omega⟩ ?_
  refine ga_sld rfl dL_law_543 (by omega) (by omega) ?_
  refine ga_aload_n dL_law_544 rfl ?_
  refine ga_iload dL_law_545 rfl ?_
  refine ga_iconst dL_law_547 ⟨by decide, by decide⟩ ?_
  refine ga_iadd dL_law_548 rfl ⟨by omega, by omega⟩ ?_
  refine ga_sld rfl dL_law_549 (by omega) (by omega) ?_
  refine ga_aload_n dL_law_550 rfl ?_
  refine ga_iload dL_law_551 rfl ?_
  refine ga_iconst dL_law_553 ⟨by decide, by decide⟩ ?_
  refine ga_iadd dL_law_554 rfl ⟨by omega, by omega⟩ ?_
  refine ga_sld rfl dL_law_555 (by omega) (by omega) ?_
  refine ga_aload_n dL_law_556 rfl ?_
  refine ga_callSW (T_L_port ((xs ((i : Int) + 1).toNat).toInt) ((xs ((i : Int) + 2).toNat).toInt) ((xs ((i : Int) + 3).toNat).toInt) σ ok bad (fun a σ1 w => (h1 a σ1 w).1) ht hm hs hM) fL_port rfl kL_port lkL_87 dL_law_557 rfl rfl (by decide) (Nat.le_of_ble_eq_true rfl) (by omega) (by omega) ?_
  rintro v h3 (⟨a, σ1, hok, hv, hh⟩ | ⟨c, hbad, c0, hv, hh⟩)
  · rw [hv, hh]
    obtain ⟨hQ, tR, htR, hR⟩ := h1 a σ1 hok
    refine ga_istore (lv2 := [_, _, _, _, _, _, _]) dL_law_560 (show (5 : Nat) < 7 by decide) rfl rfl ?_
    refine ga_aload_n dL_law_562 rfl ?_
    refine ga_aload_n dL_law_563 rfl ?_
    refine ga_iload dL_law_564 rfl ?_
    refine ga_iconst dL_law_566 ⟨by decide, by decide⟩ ?_
    refine ga_iadd dL_law_567 rfl ⟨by omega, by omega⟩ ?_
    refine ga_sld rfl dL_law_568 (by omega) (by omega) ?_
    refine ga_aload_n dL_law_569 rfl ?_
    refine ga_iload dL_law_570 rfl ?_
    refine ga_iconst dL_law_572 ⟨by decide, by decide⟩ ?_
    refine ga_iadd dL_law_573 rfl ⟨by omega, by omega⟩ ?_
    refine ga_sld rfl dL_law_574 (by omega) (by omega) ?_
    refine ga_aload_n dL_law_575 rfl ?_
    refine ga_iload dL_law_576 rfl ?_
    refine ga_iconst dL_law_578 ⟨by decide, by decide⟩ ?_
    refine ga_iadd dL_law_579 rfl ⟨by omega, by omega⟩ ?_
    refine ga_sld rfl dL_law_580 (by omega) (by omega) ?_
    refine ga_callV hR fX11_port rfl kX11_port lkL_89 dL_law_581 rfl rfl (by omega) (HP_obj rfl) rfl (Nat.le_of_ble_eq_true rfl) (by omega) (by omega) ?_
    rintro v h3 ⟨b, σ2, hb, hv, hh, h63, h88, hI2⟩
    rw [hv, hh]
    refine ga_istore (lv2 := [_, _, _, _, _, _, _]) dL_law_584 (show (6 : Nat) < 7 by decide) rfl rfl ?_
    refine ga_aload_n dL_law_586 rfl ?_
    refine ga_callV (T_X11_thrown σ2) fX11_thrown rfl kX11_thrown lkL_65 dL_law_587 rfl rfl (by decide) (HP_obj rfl) rfl (Nat.le_of_ble_eq_true rfl) (by omega) (by omega) ?_
    rintro v h3 ⟨hv, hh⟩
    rw [hv, hh, h63]
    refine ga_iload dL_law_590 rfl ?_
    refine ga_icmp_eq (tgt := 597) dL_law_592 rfl (fun _ => ?_) (fun c => absurd rfl c)
    refine ga_iload dL_law_597 rfl ?_
    refine ga_if_ne (tgt := 621) dL_law_599 rfl (fun c => absurd rfl c) (fun _ => ?_)
    refine ga_aload_n dL_law_602 rfl ?_
    refine ga_iconst dL_law_603 ⟨by decide, by decide⟩ ?_
    refine hg_lald dL_law_604 rfl (by decide) (by decide) ?_
    rw [h88 rfl]
    refine ga_iload dL_law_605 rfl ?_
    have hb1 : b = 0 ∨ b = 1 := by have hb2 : b = a := hb; have hq : a = 0 ∨ a = 1 := hQ; omega
    rcases hb1 with q | q
    · subst q
      refine ga_if_eq (tgt := 614) dL_law_607 rfl (fun _ => ?_) (fun c => absurd rfl c)
      refine ga_lconst (z := 0) dL_law_614 ⟨by decide, by decide⟩ rfl ?_
      refine ga_lcmp dL_law_615 ?_
      refine ga_if_eq (tgt := 621) dL_law_616 rfl (fun _ => ?_) (fun c => absurd (lc_0 _) c)
      refine ga_goto (tgt := 1011) dL_law_621 rfl ?_
      exact K _ _ σ2 _ _ (by omega) (by omega) hI2
    · subst q
      refine ga_if_eq (tgt := 614) dL_law_607 rfl (fun c => absurd c (by decide)) (fun _ => ?_)
      refine ga_lconst (z := 1) dL_law_610 ⟨by decide, by decide⟩ rfl ?_
      refine ga_goto (tgt := 615) dL_law_611 rfl ?_
      refine ga_lcmp dL_law_615 ?_
      refine ga_if_eq (tgt := 621) dL_law_616 rfl (fun _ => ?_) (fun c => absurd (lc_0 _) c)
      refine ga_goto (tgt := 1011) dL_law_621 rfl ?_
      exact K _ _ σ2 _ _ (by omega) (by omega) hI2
  · rw [hv, hh]
    obtain ⟨tR, htR, hR⟩ := h2 c hbad
    refine ga_istore (lv2 := [_, _, _, _, _, _, _]) dL_law_560 (show (5 : Nat) < 7 by decide) rfl rfl ?_
    refine ga_aload_n dL_law_562 rfl ?_
    refine ga_aload_n dL_law_563 rfl ?_
    refine ga_iload dL_law_564 rfl ?_
    refine ga_iconst dL_law_566 ⟨by decide, by decide⟩ ?_
    refine ga_iadd dL_law_567 rfl ⟨by omega, by omega⟩ ?_
    refine ga_sld rfl dL_law_568 (by omega) (by omega) ?_
    refine ga_aload_n dL_law_569 rfl ?_
    refine ga_iload dL_law_570 rfl ?_
    refine ga_iconst dL_law_572 ⟨by decide, by decide⟩ ?_
    refine ga_iadd dL_law_573 rfl ⟨by omega, by omega⟩ ?_
    refine ga_sld rfl dL_law_574 (by omega) (by omega) ?_
    refine ga_aload_n dL_law_575 rfl ?_
    refine ga_iload dL_law_576 rfl ?_
    refine ga_iconst dL_law_578 ⟨by decide, by decide⟩ ?_
    refine ga_iadd dL_law_579 rfl ⟨by omega, by omega⟩ ?_
    refine ga_sld rfl dL_law_580 (by omega) (by omega) ?_
    refine ga_callV hR fX11_port rfl kX11_port lkL_89 dL_law_581 rfl rfl (by omega) (HP_obj rfl) rfl (Nat.le_of_ble_eq_true rfl) (by omega) (by omega) ?_
    rintro v h3 ⟨b, σ2, hb, hv, hh, h63, h88, hI2⟩
    rw [hv, hh]
    refine ga_istore (lv2 := [_, _, _, _, _, _, _]) dL_law_584 (show (6 : Nat) < 7 by decide) rfl rfl ?_
    refine ga_aload_n dL_law_586 rfl ?_
    refine ga_callV (T_X11_thrown σ2) fX11_thrown rfl kX11_thrown lkL_65 dL_law_587 rfl rfl (by decide) (HP_obj rfl) rfl (Nat.le_of_ble_eq_true rfl) (by omega) (by omega) ?_
    rintro v h3 ⟨hv, hh⟩
    rw [hv, hh, h63]
    refine ga_iload dL_law_590 rfl ?_
    refine ga_icmp_eq (tgt := 597) dL_law_592 rfl (fun _ => ?_) (fun c => absurd rfl c)
    refine ga_iload dL_law_597 rfl ?_
    refine ga_if_ne (tgt := 621) dL_law_599 rfl (fun _ => ?_) (fun c => absurd c (by omega))
    refine ga_goto (tgt := 1011) dL_law_621 rfl ?_
    exact K _ _ σ2 _ _ (by omega) (by omega) hI2
theorem law_join {L : Nat} {xs : Nat → Int32} (hL : L ≤ 2560) (i : Nat) (hi : i + 5 ≤ L) (kc ks : Nat) (hkc : kc + 1 ≤ 601024) (hks : ks + 6 ≤ 7293034) (σ : ga_S) (hI : IvO σ) (y5 y6 : Option ga_V) (K : ∀ (kc2 ks2 : Nat) (τ : ga_S) (z5 z6 : Option ga_V), kc2 ≤ kc + 1 → ks2 ≤ ks + 6 → IvO τ → ga_W 11 601024 7293034 kc2 ks2 (mL_law L xs) (fun v _ => v = some (Vi 1)) ga_nox 1011 [some (Vr ga_scr), some (Vr 0), some (Vr 63), some (Vr 88), some (Vi (i : Int)), z5, z6] [] (HP τ)) : ga_W 11 601024 7293034 kc ks (mL_law L xs) (fun v _ => v = some (Vi 1)) ga_nox 624 [some (Vr ga_scr), some (Vr 0), some (Vr 63), some (Vr 88), some (Vi (i : Int)), y5, y6] [] (HP σ) := by
  obtain ⟨ok, bad, ⟨t2, m2, s2, ht, hm, hs, hM⟩, h1, h2⟩ := ST_join ((xs ((i : Int) + 1).toNat).toInt) ((xs ((i : Int) + 2).toNat).toInt) hI
  refine ga_aload_n dL_law_624 rfl ?_
  refine ga_aload_n dL_law_625 rfl ?_
  refine ga_iload dL_law_626 rfl ?_
  refine ga_iconst dL_law_628 ⟨by decide, by decide⟩ ?_
  refine ga_iadd dL_law_629 rfl ⟨by omega, by omega⟩ ?_
  refine ga_sld rfl dL_law_630 (by omega) (by omega) ?_
  refine ga_aload_n dL_law_631 rfl ?_
  refine ga_iload dL_law_632 rfl ?_
  refine ga_iconst dL_law_634 ⟨by decide, by decide⟩ ?_
  refine ga_iadd dL_law_635 rfl ⟨by omega, by omega⟩ ?_
  refine ga_sld rfl dL_law_636 (by omega) (by omega) ?_
  refine ga_aload_n dL_law_637 rfl ?_
  refine ga_callSW (T_L_join ((xs ((i : Int) + 1).toNat).toInt) ((xs ((i : Int) + 2).toNat).toInt) σ ok bad ht hm hs hM) fL_join rfl kL_join lkL_90 dL_law_638 rfl rfl (by decide) (Nat.le_of_ble_eq_true rfl) (by omega) (by omega) ?_
  rintro v h3 (⟨a, σ1, hok, hv, hh⟩ | ⟨c, hbad, c0, hv, hh⟩)
  · rw [hv, hh]
    obtain ⟨hQ, tR, htR, hR⟩ := h1 a σ1 hok
    refine ga_istore (lv2 := [_, _, _, _, _, _, _]) dL_law_641 (show (5 : Nat) < 7 by decide) rfl rfl ?_
    refine ga_aload_n dL_law_643 rfl ?_
    refine ga_aload_n dL_law_644 rfl ?_
    refine ga_iload dL_law_645 rfl ?_
    refine ga_iconst dL_law_647 ⟨by decide, by decide⟩ ?_
    refine ga_iadd dL_law_648 rfl ⟨by omega, by omega⟩ ?_
    refine ga_sld rfl dL_law_649 (by omega) (by omega) ?_
    refine ga_aload_n dL_law_650 rfl ?_
    refine ga_iload dL_law_651 rfl ?_
    refine ga_iconst dL_law_653 ⟨by decide, by decide⟩ ?_
    refine ga_iadd dL_law_654 rfl ⟨by omega, by omega⟩ ?_
    refine ga_sld rfl dL_law_655 (by omega) (by omega) ?_
    refine ga_callV hR fX11_join rfl kX11_join lkL_92 dL_law_656 rfl rfl (by omega) (HP_obj rfl) rfl (Nat.le_of_ble_eq_true rfl) (by omega) (by omega) ?_
    rintro v h3 ⟨b, σ2, hb, hv, hh, h63, h88, hI2⟩
    rw [hv, hh]
    refine ga_istore (lv2 := [_, _, _, _, _, _, _]) dL_law_659 (show (6 : Nat) < 7 by decide) rfl rfl ?_
    refine ga_aload_n dL_law_661 rfl ?_
    refine ga_callV (T_X11_thrown σ2) fX11_thrown rfl kX11_thrown lkL_65 dL_law_662 rfl rfl (by decide) (HP_obj rfl) rfl (Nat.le_of_ble_eq_true rfl) (by omega) (by omega) ?_
    rintro v h3 ⟨hv, hh⟩
    rw [hv, hh, h63]
    refine ga_iload dL_law_665 rfl ?_
    refine ga_icmp_eq (tgt := 672) dL_law_667 rfl (fun _ => ?_) (fun c => absurd rfl c)
    refine ga_iload dL_law_672 rfl ?_
    refine ga_if_ne (tgt := 689) dL_law_674 rfl (fun c => absurd rfl c) (fun _ => ?_)
    refine ga_aload_n dL_law_677 rfl ?_
    refine ga_iconst dL_law_678 ⟨by decide, by decide⟩ ?_
    refine hg_lald dL_law_679 rfl (by decide) (by decide) ?_
    rw [h88 rfl]
    refine ga_iload dL_law_680 rfl ?_
    refine ga_i2l dL_law_682 ?_
    refine ga_lcmp dL_law_683 ?_
    refine ga_if_eq (tgt := 689) dL_law_684 rfl (fun _ => ?_) (fun c => absurd (lc_0 _) c)
    refine ga_goto (tgt := 1011) dL_law_689 rfl ?_
    exact K _ _ σ2 _ _ (by omega) (by omega) hI2
  · rw [hv, hh]
    obtain ⟨tR, htR, hR⟩ := h2 c hbad
    refine ga_istore (lv2 := [_, _, _, _, _, _, _]) dL_law_641 (show (5 : Nat) < 7 by decide) rfl rfl ?_
    refine ga_aload_n dL_law_643 rfl ?_
    refine ga_aload_n dL_law_644 rfl ?_
    refine ga_iload dL_law_645 rfl ?_
    refine ga_iconst dL_law_647 ⟨by decide, by decide⟩ ?_
    refine ga_iadd dL_law_648 rfl ⟨by omega, by omega⟩ ?_
    refine ga_sld rfl dL_law_649 (by omega) (by omega) ?_
    refine ga_aload_n dL_law_650 rfl ?_
    refine ga_iload dL_law_651 rfl ?_
    refine ga_iconst dL_law_653 ⟨by decide, by decide⟩ ?_
    refine ga_iadd dL_law_654 rfl ⟨by omega, by omega⟩ ?_
    refine ga_sld rfl dL_law_655 (by omega) (by omega) ?_
    refine ga_callV hR fX11_join rfl kX11_join lkL_92 dL_law_656 rfl rfl (by omega) (HP_obj rfl) rfl (Nat.le_of_ble_eq_true rfl) (by omega) (by omega) ?_
    rintro v h3 ⟨b, σ2, hb, hv, hh, h63, h88, hI2⟩
    rw [hv, hh]
    refine ga_istore (lv2 := [_, _, _, _, _, _, _]) dL_law_659 (show (6 : Nat) < 7 by decide) rfl rfl ?_
    refine ga_aload_n dL_law_661 rfl ?_
    refine ga_callV (T_X11_thrown σ2) fX11_thrown rfl kX11_thrown lkL_65 dL_law_662 rfl rfl (by decide) (HP_obj rfl) rfl (Nat.le_of_ble_eq_true rfl) (by omega) (by omega) ?_
    rintro v h3 ⟨hv, hh⟩
    rw [hv, hh, h63]
    refine ga_iload dL_law_665 rfl ?_
    refine ga_icmp_eq (tgt := 672) dL_law_667 rfl (fun _ => ?_) (fun c => absurd rfl c)
    refine ga_iload dL_law_672 rfl ?_
    refine ga_if_ne (tgt := 689) dL_law_674 rfl (fun _ => ?_) (fun c => absurd c (by omega))
    refine ga_goto (tgt := 1011) dL_law_689 rfl ?_
    exact K _ _ σ2 _ _ (by omega) (by omega) hI2
theorem law_run {L : Nat} {xs : Nat → Int32} (hL : L ≤ 2560) (i : Nat) (hi : i + 5 ≤ L) (kc ks : Nat) (hkc : kc + 1 ≤ 601024) (hks : ks + 6 ≤ 7293034) (σ : ga_S) (hI : IvO σ) (y5 y6 : Option ga_V) (K : ∀ (kc2 ks2 : Nat) (τ : ga_S) (z5 z6 : Option ga_V), kc2 ≤ kc + 1 → ks2 ≤ ks + 6 → IvO τ → ga_W 11 601024 7293034 kc2 ks2 (mL_law L xs) (fun v _ => v = some (Vi 1)) ga_nox 1011 [some (Vr ga_scr), some (Vr 0), some (Vr 63), some (Vr 88), some (Vi (i : Int)), z5, z6] [] (HP τ)) : ga_W 11 601024 7293034 kc ks (mL_law L xs) (fun v _ => v = some (Vi 1)) ga_nox 692 [some (Vr ga_scr), some (Vr 0), some (Vr 63), some (Vr 88), some (Vi (i : Int)), y5, y6] [] (HP σ) := by
  obtain ⟨ok, bad, ⟨t2, m2, s2, ht, hm, hs, hM⟩, h1, h2⟩ := ST_run ((Int64.ofInt (Int64.ofInt (xs ((i : Int) + 1).toNat).toInt <<< ((Int32.ofInt 32).toInt64 &&& 63)).toInt ||| Int64.ofInt (Int64.ofInt (xs ((i : Int) + 2).toNat).toInt &&& Int64.ofInt 4294967295).toInt).toInt) hI
  refine ga_aload_n dL_law_692 rfl ?_
  refine ga_aload_n dL_law_693 rfl ?_
  refine ga_iload dL_law_694 rfl ?_
  refine ga_iconst dL_law_696 ⟨by decide, by decide⟩ ?_
  refine ga_iadd dL_law_697 rfl ⟨by omega, by omega⟩ ?_
  refine ga_sld rfl dL_law_698 (by omega) (by omega) ?_
  refine ga_i2l dL_law_699 ?_
  refine ga_bipush dL_law_700 ⟨by decide, by decide⟩ (by decide) ?_
  refine ga_lshl dL_law_702 ?_
  refine ga_aload_n dL_law_703 rfl ?_
  refine ga_iload dL_law_704 rfl ?_
  refine ga_iconst dL_law_706 ⟨by decide, by decide⟩ ?_
  refine ga_iadd dL_law_707 rfl ⟨by omega, by omega⟩ ?_
  refine ga_sld rfl dL_law_708 (by omega) (by omega) ?_
  refine ga_i2l dL_law_709 ?_
  refine ga_ldc2l (z := 4294967295) dL_law_710 cnL_93 rfl ⟨by decide, by decide⟩ ?_
  refine ga_land dL_law_713 ?_
  refine ga_lor dL_law_714 ?_
  refine ga_aload_n dL_law_715 rfl ?_
  refine ga_callSW (T_L_run ((Int64.ofInt (Int64.ofInt (xs ((i : Int) + 1).toNat).toInt <<< ((Int32.ofInt 32).toInt64 &&& 63)).toInt ||| Int64.ofInt (Int64.ofInt (xs ((i : Int) + 2).toNat).toInt &&& Int64.ofInt 4294967295).toInt).toInt) σ ok bad ht hm hs hM) fL_run rfl kL_run lkL_95 dL_law_716 rfl rfl (by decide) (Nat.le_of_ble_eq_true rfl) (by omega) (by omega) ?_
  rintro v h3 (⟨a, σ1, hok, hv, hh⟩ | ⟨c, hbad, c0, hv, hh⟩)
  · rw [hv, hh]
    obtain ⟨hQ, tR, htR, hR⟩ := h1 a σ1 hok
    refine ga_istore (lv2 := [_, _, _, _, _, _, _]) dL_law_719 (show (5 : Nat) < 7 by decide) rfl rfl ?_
    refine ga_aload_n dL_law_721 rfl ?_
    refine ga_aload_n dL_law_722 rfl ?_
    refine ga_iload dL_law_723 rfl ?_
    refine ga_iconst dL_law_725 ⟨by decide, by decide⟩ ?_
    refine ga_iadd dL_law_726 rfl ⟨by omega, by omega⟩ ?_
    refine ga_sld rfl dL_law_727 (by omega) (by omega) ?_
    refine ga_i2l dL_law_728 ?_
    refine ga_bipush dL_law_729 ⟨by decide, by decide⟩ (by decide) ?_
    refine ga_lshl dL_law_731 ?_
    refine ga_aload_n dL_law_732 rfl ?_
    refine ga_iload dL_law_733 rfl ?_
    refine ga_iconst dL_law_735 ⟨by decide, by decide⟩ ?_
    refine ga_iadd dL_law_736 rfl ⟨by omega, by omega⟩ ?_
    refine ga_sld rfl dL_law_737 (by omega) (by omega) ?_
    refine ga_i2l dL_law_738 ?_
    refine ga_ldc2l (z := 4294967295) dL_law_739 cnL_93 rfl ⟨by decide, by decide⟩ ?_
    refine ga_land dL_law_742 ?_
    refine ga_lor dL_law_743 ?_
    refine ga_callV hR fX11_run rfl kX11_run lkL_98 dL_law_744 rfl rfl (by omega) (HP_obj rfl) rfl (Nat.le_of_ble_eq_true rfl) (by omega) (by omega) ?_
    rintro v h3 ⟨b, σ2, hb, hv, hh, h63, h88, hI2⟩
    rw [hv, hh]
    refine ga_istore (lv2 := [_, _, _, _, _, _, _]) dL_law_747 (show (6 : Nat) < 7 by decide) rfl rfl ?_
    refine ga_aload_n dL_law_749 rfl ?_
    refine ga_callV (T_X11_thrown σ2) fX11_thrown rfl kX11_thrown lkL_65 dL_law_750 rfl rfl (by decide) (HP_obj rfl) rfl (Nat.le_of_ble_eq_true rfl) (by omega) (by omega) ?_
    rintro v h3 ⟨hv, hh⟩
    rw [hv, hh, h63]
    refine ga_iload dL_law_753 rfl ?_
    refine ga_icmp_eq (tgt := 760) dL_law_755 rfl (fun _ => ?_) (fun c => absurd rfl c)
    refine ga_iload dL_law_760 rfl ?_
    refine ga_if_ne (tgt := 777) dL_law_762 rfl (fun c => absurd rfl c) (fun _ => ?_)
    refine ga_aload_n dL_law_765 rfl ?_
    refine ga_iconst dL_law_766 ⟨by decide, by decide⟩ ?_
    refine hg_lald dL_law_767 rfl (by decide) (by decide) ?_
    rw [h88 rfl]
    refine ga_iload dL_law_768 rfl ?_
    refine ga_i2l dL_law_770 ?_
    refine ga_lcmp dL_law_771 ?_
    refine ga_if_eq (tgt := 777) dL_law_772 rfl (fun _ => ?_) (fun c => absurd (lc_0 _) c)
    refine ga_goto (tgt := 1011) dL_law_777 rfl ?_
    exact K _ _ σ2 _ _ (by omega) (by omega) hI2
  · rw [hv, hh]
    obtain ⟨tR, htR, hR⟩ := h2 c hbad
    refine ga_istore (lv2 := [_, _, _, _, _, _, _]) dL_law_719 (show (5 : Nat) < 7 by decide) rfl rfl ?_
    refine ga_aload_n dL_law_721 rfl ?_
    refine ga_aload_n dL_law_722 rfl ?_
    refine ga_iload dL_law_723 rfl ?_
    refine ga_iconst dL_law_725 ⟨by decide, by decide⟩ ?_
    refine ga_iadd dL_law_726 rfl ⟨by omega, by omega⟩ ?_
    refine ga_sld rfl dL_law_727 (by omega) (by omega) ?_
    refine ga_i2l dL_law_728 ?_
    refine ga_bipush dL_law_729 ⟨by decide, by decide⟩ (by decide) ?_
    refine ga_lshl dL_law_731 ?_
    refine ga_aload_n dL_law_732 rfl ?_
    refine ga_iload dL_law_733 rfl ?_
    refine ga_iconst dL_law_735 ⟨by decide, by decide⟩ ?_
    refine ga_iadd dL_law_736 rfl ⟨by omega, by omega⟩ ?_
    refine ga_sld rfl dL_law_737 (by omega) (by omega) ?_
    refine ga_i2l dL_law_738 ?_
    refine ga_ldc2l (z := 4294967295) dL_law_739 cnL_93 rfl ⟨by decide, by decide⟩ ?_
    refine ga_land dL_law_742 ?_
    refine ga_lor dL_law_743 ?_
    refine ga_callV hR fX11_run rfl kX11_run lkL_98 dL_law_744 rfl rfl (by omega) (HP_obj rfl) rfl (Nat.le_of_ble_eq_true rfl) (by omega) (by omega) ?_
    rintro v h3 ⟨b, σ2, hb, hv, hh, h63, h88, hI2⟩
    rw [hv, hh]
    refine ga_istore (lv2 := [_, _, _, _, _, _, _]) dL_law_747 (show (6 : Nat) < 7 by decide) rfl rfl ?_
    refine ga_aload_n dL_law_749 rfl ?_
    refine ga_callV (T_X11_thrown σ2) fX11_thrown rfl kX11_thrown lkL_65 dL_law_750 rfl rfl (by decide) (HP_obj rfl) rfl (Nat.le_of_ble_eq_true rfl) (by omega) (by omega) ?_
    rintro v h3 ⟨hv, hh⟩
    rw [hv, hh, h63]
    refine ga_iload dL_law_753 rfl ?_
    refine ga_icmp_eq (tgt := 760) dL_law_755 rfl (fun _ => ?_) (fun c => absurd rfl c)
    refine ga_iload dL_law_760 rfl ?_
    refine ga_if_ne (tgt := 777) dL_law_762 rfl (fun _ => ?_) (fun c => absurd c (by omega))
    refine ga_goto (tgt := 1011) dL_law_777 rfl ?_
    exact K _ _ σ2 _ _ (by omega) (by omega) hI2
theorem law_match {L : Nat} {xs : Nat → Int32} (hL : L ≤ 2560) (i : Nat) (hi : i + 5 ≤ L) (kc ks : Nat) (hkc : kc + 1 ≤ 601024) (hks : ks + 6 ≤ 7293034) (σ : ga_S) (hI : IvO σ) (y5 y6 : Option ga_V) (K : ∀ (kc2 ks2 : Nat) (τ : ga_S) (z5 z6 : Option ga_V), kc2 ≤ kc + 1 → ks2 ≤ ks + 6 → IvO τ → ga_W 11 601024 7293034 kc2 ks2 (mL_law L xs) (fun v _ => v = some (Vi 1)) ga_nox 1011 [some (Vr ga_scr), some (Vr 0), some (Vr 63), some (Vr 88), some (Vi (i : Int)), z5, z6] [] (HP τ)) : ga_W 11 601024 7293034 kc ks (mL_law L xs) (fun v _ => v = some (Vi 1)) ga_nox 780 [some (Vr ga_scr), some (Vr 0), some (Vr 63), some (Vr 88), some (Vi (i : Int)), y5, y6] [] (HP σ) := by
  obtain ⟨ok, bad, ⟨t2, m2, s2, ht, hm, hs, hM⟩, h1, h2⟩ := ST_match ((xs ((i : Int) + 1).toNat).toInt) ((xs ((i : Int) + 2).toNat).toInt) hI
  refine ga_aload_n dL_law_780 rfl ?_
  refine ga_aload_n dL_law_781 rfl ?_
  refine ga_iload dL_law_782 rfl ?_
  refine ga_iconst dL_law_784 ⟨by decide, by decide⟩ ?_
  refine ga_iadd dL_law_785 rfl ⟨by omega, by omega⟩ ?_
  refine ga_sld rfl dL_law_786 (by omega) (by omega) ?_
  refine ga_aload_n dL_law_787 rfl ?_
  refine ga_iload dL_law_788 rfl ?_
  refine ga_iconst dL_law_790 ⟨by decide, by decide⟩ ?_
  refine ga_iadd dL_law_791 rfl ⟨by omega, by omega⟩ ?_
  refine ga_sld rfl dL_law_792 (by omega) (by omega) ?_
  refine ga_aload_n dL_law_793 rfl ?_
  refine ga_callSW (T_L_match ((xs ((i : Int) + 1).toNat).toInt) ((xs ((i : Int) + 2).toNat).toInt) σ ok bad ht hm hs hM) fL_match rfl kL_match lkL_99 dL_law_794 rfl rfl (by decide) (Nat.le_of_ble_eq_true rfl) (by omega) (by omega) ?_
  rintro v h3 (⟨a, σ1, hok, hv, hh⟩ | ⟨c, hbad, c0, hv, hh⟩)
  · rw [hv, hh]
    obtain ⟨hQ, tR, htR, hR⟩ := h1 a σ1 hok
    refine ga_istore (lv2 := [_, _, _, _, _, _, _]) dL_law_797 (show (5 : Nat) < 7 by decide) rfl rfl ?_
    refine ga_aload_n dL_law_799 rfl ?_
    refine ga_aload_n dL_law_800 rfl ?_
    refine ga_iload dL_law_801 rfl ?_
    refine ga_iconst dL_law_803 ⟨by decide, by decide⟩ ?_
    refine ga_iadd dL_law_804 rfl ⟨by omega, by omega⟩ ?_
    refine ga_sld rfl dL_law_805 (by omega) (by omega) ?_
    refine ga_aload_n dL_law_806 rfl ?_
    refine ga_iload dL_law_807 rfl ?_
    refine ga_iconst dL_law_809 ⟨by decide, by decide⟩ ?_
    refine ga_iadd dL_law_810 rfl ⟨by omega, by omega⟩ ?_
    refine ga_sld rfl dL_law_811 (by omega) (by omega) ?_
    refine ga_callV hR fX11_match rfl kX11_match lkL_101 dL_law_812 rfl rfl (by omega) (HP_obj rfl) rfl (Nat.le_of_ble_eq_true rfl) (by omega) (by omega) ?_
    rintro v h3 ⟨b, σ2, hb, hv, hh, h63, h88, hI2⟩
    rw [hv, hh]
    refine ga_istore (lv2 := [_, _, _, _, _, _, _]) dL_law_815 (show (6 : Nat) < 7 by decide) rfl rfl ?_
    refine ga_aload_n dL_law_817 rfl ?_
    refine ga_callV (T_X11_thrown σ2) fX11_thrown rfl kX11_thrown lkL_65 dL_law_818 rfl rfl (by decide) (HP_obj rfl) rfl (Nat.le_of_ble_eq_true rfl) (by omega) (by omega) ?_
    rintro v h3 ⟨hv, hh⟩
    rw [hv, hh, h63]
    refine ga_iload dL_law_821 rfl ?_
    refine ga_icmp_eq (tgt := 828) dL_law_823 rfl (fun _ => ?_) (fun c => absurd rfl c)
    refine ga_iload dL_law_828 rfl ?_
    refine ga_if_ne (tgt := 845) dL_law_830 rfl (fun c => absurd rfl c) (fun _ => ?_)
    refine ga_aload_n dL_law_833 rfl ?_
    refine ga_iconst dL_law_834 ⟨by decide, by decide⟩ ?_
    refine hg_lald dL_law_835 rfl (by decide) (by decide) ?_
    rw [h88 rfl]
    refine ga_iload dL_law_836 rfl ?_
    refine ga_i2l dL_law_838 ?_
    refine ga_lcmp dL_law_839 ?_
    refine ga_if_eq (tgt := 845) dL_law_840 rfl (fun _ => ?_) (fun c => absurd (lc_0 _) c)
    refine ga_goto (tgt := 1011) dL_law_845 rfl ?_
    exact K _ _ σ2 _ _ (by omega) (by omega) hI2
  · rw [hv, hh]
    obtain ⟨tR, htR, hR⟩ := h2 c hbad
    refine ga_istore (lv2 := [_, _, _, _, _, _, _]) dL_law_797 (show (5 : Nat) < 7 by decide) rfl rfl ?_
    refine ga_aload_n dL_law_799 rfl ?_
    refine ga_aload_n dL_law_800 rfl ?_
    refine ga_iload dL_law_801 rfl ?_
    refine ga_iconst dL_law_803 ⟨by decide, by decide⟩ ?_
    refine ga_iadd dL_law_804 rfl ⟨by omega, by omega⟩ ?_
    refine ga_sld rfl dL_law_805 (by omega) (by omega) ?_
    refine ga_aload_n dL_law_806 rfl ?_
    refine ga_iload dL_law_807 rfl ?_
    refine ga_iconst dL_law_809 ⟨by decide, by decide⟩ ?_
    refine ga_iadd dL_law_810 rfl ⟨by omega, by omega⟩ ?_
    refine ga_sld rfl dL_law_811 (by omega) (by omega) ?_
    refine ga_callV hR fX11_match rfl kX11_match lkL_101 dL_law_812 rfl rfl (by omega) (HP_obj rfl) rfl (Nat.le_of_ble_eq_true rfl) (by omega) (by omega) ?_
    rintro v h3 ⟨b, σ2, hb, hv, hh, h63, h88, hI2⟩
    rw [hv, hh]
    refine ga_istore (lv2 := [_, _, _, _, _, _, _]) dL_law_815 (show (6 : Nat) < 7 by decide) rfl rfl ?_
    refine ga_aload_n dL_law_817 rfl ?_
    refine ga_callV (T_X11_thrown σ2) fX11_thrown rfl kX11_thrown lkL_65 dL_law_818 rfl rfl (by decide) (HP_obj rfl) rfl (Nat.le_of_ble_eq_true rfl) (by omega) (by omega) ?_
    rintro v h3 ⟨hv, hh⟩
    rw [hv, hh, h63]
    refine ga_iload dL_law_821 rfl ?_
    refine ga_icmp_eq (tgt := 828) dL_law_823 rfl (fun _ => ?_) (fun c => absurd rfl c)
    refine ga_iload dL_law_828 rfl ?_
    refine ga_if_ne (tgt := 845) dL_law_830 rfl (fun _ => ?_) (fun c => absurd c (by omega))
    refine ga_goto (tgt := 1011) dL_law_845 rfl ?_
    exact K _ _ σ2 _ _ (by omega) (by omega) hI2
theorem law_netMatch {L : Nat} {xs : Nat → Int32} (hL : L ≤ 2560) (i : Nat) (hi : i + 5 ≤ L) (kc ks : Nat) (hkc : kc + 1 ≤ 601024) (hks : ks + 6 ≤ 7293034) (σ : ga_S) (hI : IvO σ) (y5 y6 : Option ga_V) (K : ∀ (kc2 ks2 : Nat) (τ : ga_S) (z5 z6 : Option ga_V), kc2 ≤ kc + 1 → ks2 ≤ ks + 6 → IvO τ → ga_W 11 601024 7293034 kc2 ks2 (mL_law L xs) (fun v _ => v = some (Vi 1)) ga_nox 1011 [some (Vr ga_scr), some (Vr 0), some (Vr 63), some (Vr 88), some (Vi (i : Int)), z5, z6] [] (HP τ)) : ga_W 11 601024 7293034 kc ks (mL_law L xs) (fun v _ => v = some (Vi 1)) ga_nox 848 [some (Vr ga_scr), some (Vr 0), some (Vr 63), some (Vr 88), some (Vi (i : Int)), y5, y6] [] (HP σ) := by
  obtain ⟨ok, bad, ⟨t2, m2, s2, ht, hm, hs, hM⟩, h1, h2⟩ := ST_netMatch ((xs ((i : Int) + 1).toNat).toInt) hI
  refine ga_aload_n dL_law_848 rfl ?_
  refine ga_aload_n dL_law_849 rfl ?_
  refine ga_iload dL_law_850 rfl ?_
  refine ga_iconst dL_law_852 ⟨by decide, by decide⟩ ?_
  refine ga_iadd dL_law_853 rfl ⟨by omega, by omega⟩ ?_
  refine ga_sld rfl dL_law_854 (by omega) (by omega) ?_
  refine ga_aload_n dL_law_855 rfl ?_
  refine ga_callSW (T_L_netMatch ((xs ((i : Int) + 1).toNat).toInt) σ ok bad ht hm hs hM) fL_netMatch rfl kL_netMatch lkL_102 dL_law_856 rfl rfl (by decide) (Nat.le_of_ble_eq_true rfl) (by omega) (by omega) ?_
  rintro v h3 (⟨a, σ1, hok, hv, hh⟩ | ⟨c, hbad, c0, hv, hh⟩)
  · rw [hv, hh]
    obtain ⟨hQ, tR, htR, hR⟩ := h1 a σ1 hok
    refine ga_istore (lv2 := [_, _, _, _, _, _, _]) dL_law_859 (show (5 : Nat) < 7 by decide) rfl rfl ?_
    refine ga_aload_n dL_law_861 rfl ?_
    refine ga_aload_n dL_law_862 rfl ?_
    refine ga_iload dL_law_863 rfl ?_
    refine ga_iconst dL_law_865 ⟨by decide, by decide⟩ ?_
    refine ga_iadd dL_law_866 rfl ⟨by omega, by omega⟩ ?_
    refine ga_sld rfl dL_law_867 (by omega) (by omega) ?_
    refine ga_callV hR fX11_netMatch rfl kX11_netMatch lkL_105 dL_law_868 rfl rfl (by omega) (HP_obj rfl) rfl (Nat.le_of_ble_eq_true rfl) (by omega) (by omega) ?_
    rintro v h3 ⟨b, σ2, hb, hv, hh, h63, h88, hI2⟩
    rw [hv, hh]
    refine ga_istore (lv2 := [_, _, _, _, _, _, _]) dL_law_871 (show (6 : Nat) < 7 by decide) rfl rfl ?_
    refine ga_aload_n dL_law_873 rfl ?_
    refine ga_callV (T_X11_thrown σ2) fX11_thrown rfl kX11_thrown lkL_65 dL_law_874 rfl rfl (by decide) (HP_obj rfl) rfl (Nat.le_of_ble_eq_true rfl) (by omega) (by omega) ?_
    rintro v h3 ⟨hv, hh⟩
    rw [hv, hh, h63]
    refine ga_iload dL_law_877 rfl ?_
    refine ga_icmp_eq (tgt := 884) dL_law_879 rfl (fun _ => ?_) (fun c => absurd rfl c)
    refine ga_iload dL_law_884 rfl ?_
    refine ga_if_ne (tgt := 901) dL_law_886 rfl (fun c => absurd rfl c) (fun _ => ?_)
    refine ga_aload_n dL_law_889 rfl ?_
    refine ga_iconst dL_law_890 ⟨by decide, by decide⟩ ?_
    refine hg_lald dL_law_891 rfl (by decide) (by decide) ?_
    rw [h88 rfl]
    refine ga_iload dL_law_892 rfl ?_
    refine ga_i2l dL_law_894 ?_
    refine ga_lcmp dL_law_895 ?_
    refine ga_if_eq (tgt := 901) dL_law_896 rfl (fun _ => ?_) (fun c => absurd (lc_0 _) c)
    refine ga_goto (tgt := 1011) dL_law_901 rfl ?_
    exact K _ _ σ2 _ _ (by omega) (by omega) hI2
  · rw [hv, hh]
    obtain ⟨tR, htR, hR⟩ := h2 c hbad
    refine ga_istore (lv2 := [_, _, _, _, _, _, _]) dL_law_859 (show (5 : Nat) < 7 by decide) rfl rfl ?_
    refine ga_aload_n dL_law_861 rfl ?_
    refine ga_aload_n dL_law_862 rfl ?_
    refine ga_iload dL_law_863 rfl ?_
    refine ga_iconst dL_law_865 ⟨by decide, by decide⟩ ?_
    refine ga_iadd dL_law_866 rfl ⟨by omega, by omega⟩ ?_
    refine ga_sld rfl dL_law_867 (by omega) (by omega) ?_
    refine ga_callV hR fX11_netMatch rfl kX11_netMatch lkL_105 dL_law_868 rfl rfl (by omega) (HP_obj rfl) rfl (Nat.le_of_ble_eq_true rfl) (by omega) (by omega) ?_
    rintro v h3 ⟨b, σ2, hb, hv, hh, h63, h88, hI2⟩
    rw [hv, hh]
    refine ga_istore (lv2 := [_, _, _, _, _, _, _]) dL_law_871 (show (6 : Nat) < 7 by decide) rfl rfl ?_
    refine ga_aload_n dL_law_873 rfl ?_
    refine ga_callV (T_X11_thrown σ2) fX11_thrown rfl kX11_thrown lkL_65 dL_law_874 rfl rfl (by decide) (HP_obj rfl) rfl (Nat.le_of_ble_eq_true rfl) (by omega) (by omega) ?_
    rintro v h3 ⟨hv, hh⟩
    rw [hv, hh, h63]
    refine ga_iload dL_law_877 rfl ?_
    refine ga_icmp_eq (tgt := 884) dL_law_879 rfl (fun _ => ?_) (fun c => absurd rfl c)
    refine ga_iload dL_law_884 rfl ?_
    refine ga_if_ne (tgt := 901) dL_law_886 rfl (fun _ => ?_) (fun c => absurd c (by omega))
    refine ga_goto (tgt := 1011) dL_law_901 rfl ?_
    exact K _ _ σ2 _ _ (by omega) (by omega) hI2
theorem law_differs {L : Nat} {xs : Nat → Int32} (hL : L ≤ 2560) (i : Nat) (hi : i + 5 ≤ L) (kc ks : Nat) (hkc : kc + 1 ≤ 601024) (hks : ks + 6 ≤ 7293034) (σ : ga_S) (hI : IvO σ) (y5 y6 : Option ga_V) (K : ∀ (kc2 ks2 : Nat) (τ : ga_S) (z5 z6 : Option ga_V), kc2 ≤ kc + 1 → ks2 ≤ ks + 6 → IvO τ → ga_W 11 601024 7293034 kc2 ks2 (mL_law L xs) (fun v _ => v = some (Vi 1)) ga_nox 1011 [some (Vr ga_scr), some (Vr 0), some (Vr 63), some (Vr 88), some (Vi (i : Int)), z5, z6] [] (HP τ)) : ga_W 11 601024 7293034 kc ks (mL_law L xs) (fun v _ => v = some (Vi 1)) ga_nox 904 [some (Vr ga_scr), some (Vr 0), some (Vr 63), some (Vr 88), some (Vi (i : Int)), y5, y6] [] (HP σ) := by
  obtain ⟨ok, bad, ⟨t2, m2, s2, ht, hm, hs, hM⟩, h1, h2⟩ := ST_differs ((xs ((i : Int) + 1).toNat).toInt) ((xs ((i : Int) + 2).toNat).toInt) hI
  refine ga_aload_n dL_law_904 rfl ?_
  refine ga_aload_n dL_law_905 rfl ?_
  refine ga_iload dL_law_906 rfl ?_
  refine ga_iconst dL_law_908 ⟨by decide, by decide⟩ ?_
  refine ga_iadd dL_law_909 rfl ⟨by omega, by omega⟩ ?_
  refine ga_sld rfl dL_law_910 (by omega) (by omega) ?_
  refine ga_aload_n dL_law_911 rfl ?_
  refine ga_iload dL_law_912 rfl ?_
  refine ga_iconst dL_law_914 ⟨by decide, by decide⟩ ?_
  refine ga_iadd dL_law_915 rfl ⟨by omega, by omega⟩ ?_
  refine ga_sld rfl dL_law_916 (by omega) (by omega) ?_
  refine ga_aload_n dL_law_917 rfl ?_
  refine ga_callSW (T_L_differs ((xs ((i : Int) + 1).toNat).toInt) ((xs ((i : Int) + 2).toNat).toInt) σ ok bad ht hm hs hM) fL_differs rfl kL_differs lkL_106 dL_law_918 rfl rfl (by decide) (Nat.le_of_ble_eq_true rfl) (by omega) (by omega) ?_
  rintro v h3 (⟨a, σ1, hok, hv, hh⟩ | ⟨c, hbad, c0, hv, hh⟩)
  · rw [hv, hh]
    obtain ⟨hQ, tR, htR, hR⟩ := h1 a σ1 hok
    refine ga_istore (lv2 := [_, _, _, _, _, _, _]) dL_law_921 (show (5 : Nat) < 7 by decide) rfl rfl ?_
    refine ga_aload_n dL_law_923 rfl ?_
    refine ga_aload_n dL_law_924 rfl ?_
    refine ga_iload dL_law_925 rfl ?_
    refine ga_iconst dL_law_927 ⟨by decide, by decide⟩ ?_
    refine ga_iadd dL_law_928 rfl ⟨by omega, by omega⟩ ?_
    refine ga_sld rfl dL_law_929 (by omega) (by omega) ?_
    refine ga_aload_n dL_law_930 rfl ?_
    refine ga_iload dL_law_931 rfl ?_
    refine ga_iconst dL_law_933 ⟨by decide, by decide⟩ ?_
    refine ga_iadd dL_law_934 rfl ⟨by omega, by omega⟩ ?_
    refine ga_sld rfl dL_law_935 (by omega) (by omega) ?_
    refine ga_callV hR fX11_differs rfl kX11_differs lkL_108 dL_law_936 rfl rfl (by omega) (HP_obj rfl) rfl (Nat.le_of_ble_eq_true rfl) (by omega) (by omega) ?_
    rintro v h3 ⟨b, σ2, hb, hv, hh, h63, h88, hI2⟩
    rw [hv, hh]
    refine ga_istore (lv2 := [_, _, _, _, _, _, _]) dL_law_939 (show (6 : Nat) < 7 by decide) rfl rfl ?_
    refine ga_aload_n dL_law_941 rfl ?_
    refine ga_callV (T_X11_thrown σ2) fX11_thrown rfl kX11_thrown lkL_65 dL_law_942 rfl rfl (by decide) (HP_obj rfl) rfl (Nat.le_of_ble_eq_true rfl) (by omega) (by omega) ?_
    rintro v h3 ⟨hv, hh⟩
    rw [hv, hh, h63]
    refine ga_iload dL_law_945 rfl ?_
    refine ga_icmp_eq (tgt := 952) dL_law_947 rfl (fun _ => ?_) (fun c => absurd rfl c)
    refine ga_iload dL_law_952 rfl ?_
    refine ga_if_ne (tgt := 969) dL_law_954 rfl (fun c => absurd rfl c) (fun _ => ?_)
    refine ga_aload_n dL_law_957 rfl ?_
    refine ga_iconst dL_law_958 ⟨by decide, by decide⟩ ?_
    refine hg_lald dL_law_959 rfl (by decide) (by decide) ?_
    rw [h88 rfl]
    refine ga_iload dL_law_960 rfl ?_
    refine ga_i2l dL_law_962 ?_
    refine ga_lcmp dL_law_963 ?_
    refine ga_if_eq (tgt := 969) dL_law_964 rfl (fun _ => ?_) (fun c => absurd (lc_0 _) c)
    refine ga_goto (tgt := 1011) dL_law_969 rfl ?_
    exact K _ _ σ2 _ _ (by omega) (by omega) hI2
  · rw [hv, hh]
    obtain ⟨tR, htR, hR⟩ := h2 c hbad
    refine ga_istore (lv2 := [_, _, _, _, _, _, _]) dL_law_921 (show (5 : Nat) < 7 by decide) rfl rfl ?_
    refine ga_aload_n dL_law_923 rfl ?_
    refine ga_aload_n dL_law_924 rfl ?_
    refine ga_iload dL_law_925 rfl ?_
    refine ga_iconst dL_law_927 ⟨by decide, by decide⟩ ?_
    refine ga_iadd dL_law_928 rfl ⟨by omega, by omega⟩ ?_
    refine ga_sld rfl dL_law_929 (by omega) (by omega) ?_
    refine ga_aload_n dL_law_930 rfl ?_
    refine ga_iload dL_law_931 rfl ?_
    refine ga_iconst dL_law_933 ⟨by decide, by decide⟩ ?_
    refine ga_iadd dL_law_934 rfl ⟨by omega, by omega⟩ ?_
    refine ga_sld rfl dL_law_935 (by omega) (by omega) ?_
    refine ga_callV hR fX11_differs rfl kX11_differs lkL_108 dL_law_936 rfl rfl (by omega) (HP_obj rfl) rfl (Nat.le_of_ble_eq_true rfl) (by omega) (by omega) ?_
    rintro v h3 ⟨b, σ2, hb, hv, hh, h63, h88, hI2⟩
    rw [hv, hh]
    refine ga_istore (lv2 := [_, _, _, _, _, _, _]) dL_law_939 (show (6 : Nat) < 7 by decide) rfl rfl ?_
    refine ga_aload_n dL_law_941 rfl ?_
    refine ga_callV (T_X11_thrown σ2) fX11_thrown rfl kX11_thrown lkL_65 dL_law_942 rfl rfl (by decide) (HP_obj rfl) rfl (Nat.le_of_ble_eq_true rfl) (by omega) (by omega) ?_
    rintro v h3 ⟨hv, hh⟩
    rw [hv, hh, h63]
    refine ga_iload dL_law_945 rfl ?_
    refine ga_icmp_eq (tgt := 952) dL_law_947 rfl (fun _ => ?_) (fun c => absurd rfl c)
    refine ga_iload dL_law_952 rfl ?_
    refine ga_if_ne (tgt := 969) dL_law_954 rfl (fun _ => ?_) (fun c => absurd c (by omega))
    refine ga_goto (tgt := 1011) dL_law_969 rfl ?_
    exact K _ _ σ2 _ _ (by omega) (by omega) hI2
theorem law_rounds {L : Nat} {xs : Nat → Int32} (hL : L ≤ 2560) (i : Nat) (hi : i + 5 ≤ L) (kc ks : Nat) (hkc : kc + 1 ≤ 601024) (hks : ks + 6 ≤ 7293034) (σ : ga_S) (hI : IvO σ) (y5 y6 : Option ga_V) (K : ∀ (kc2 ks2 : Nat) (τ : ga_S) (z5 z6 : Option ga_V), kc2 ≤ kc + 1 → ks2 ≤ ks + 6 → IvO τ → ga_W 11 601024 7293034 kc2 ks2 (mL_law L xs) (fun v _ => v = some (Vi 1)) ga_nox 1011 [some (Vr ga_scr), some (Vr 0), some (Vr 63), some (Vr 88), some (Vi (i : Int)), z5, z6] [] (HP τ)) : ga_W 11 601024 7293034 kc ks (mL_law L xs) (fun v _ => v = some (Vi 1)) ga_nox 972 [some (Vr ga_scr), some (Vr 0), some (Vr 63), some (Vr 88), some (Vi (i : Int)), y5, y6] [] (HP σ) := by
  obtain ⟨a, τ, hQ, ⟨t1, ht1, hC⟩, t3, ht3, hR⟩ := ST_rounds hI
  refine ga_aload_n dL_law_972 rfl ?_
  refine ga_callV hC fX10_rounds rfl kX10_rounds lkL_109 dL_law_973 rfl rfl (by omega) (HP_obj rfl) rfl (Nat.le_of_ble_eq_true rfl) (by omega) (by omega) ?_
  rintro v h3 ⟨hv, hh⟩
  rw [hv, hh]
  refine ga_aload_n dL_law_976 rfl ?_
  refine ga_callV hR fX11_rounds rfl kX11_rounds lkL_112 dL_law_977 rfl rfl (by omega) (HP_obj rfl) rfl (Nat.le_of_ble_eq_true rfl) (by omega) (by omega) ?_
  rintro v h3 ⟨hv, σ2, hh, hI2⟩
  rw [hv, hh]
  refine ga_icmp_eq (tgt := 1011) dL_law_980 rfl (fun _ => ?_) (fun c => absurd rfl c)
  exact K _ _ σ2 _ _ (by omega) (by omega) hI2
theorem law_tried {L : Nat} {xs : Nat → Int32} (hL : L ≤ 2560) (i : Nat) (hi : i + 5 ≤ L) (kc ks : Nat) (hkc : kc + 1 ≤ 601024) (hks : ks + 6 ≤ 7293034) (σ : ga_S) (hI : IvO σ) (y5 y6 : Option ga_V) (K : ∀ (kc2 ks2 : Nat) (τ : ga_S) (z5 z6 : Option ga_V), kc2 ≤ kc + 1 → ks2 ≤ ks + 6 → IvO τ → ga_W 11 601024 7293034 kc2 ks2 (mL_law L xs) (fun v _ => v = some (Vi 1)) ga_nox 1011 [some (Vr ga_scr), some (Vr 0), some (Vr 63), some (Vr 88), some (Vi (i : Int)), z5, z6] [] (HP τ)) : ga_W 11 601024 7293034 kc ks (mL_law L xs) (fun v _ => v = some (Vi 1)) ga_nox 985 [some (Vr ga_scr), some (Vr 0), some (Vr 63), some (Vr 88), some (Vi (i : Int)), y5, y6] [] (HP σ) := by
  obtain ⟨a, τ, hQ, ⟨t1, ht1, hC⟩, t3, ht3, hR⟩ := ST_tried hI
  refine ga_aload_n dL_law_985 rfl ?_
  refine ga_callV hC fX10_tried rfl kX10_tried lkL_113 dL_law_986 rfl rfl (by omega) (HP_obj rfl) rfl (Nat.le_of_ble_eq_true rfl) (by omega) (by omega) ?_
  rintro v h3 ⟨hv, hh⟩
  rw [hv, hh]
  refine ga_aload_n dL_law_989 rfl ?_
  refine ga_callV hR fX11_tried rfl kX11_tried lkL_116 dL_law_990 rfl rfl (by omega) (HP_obj rfl) rfl (Nat.le_of_ble_eq_true rfl) (by omega) (by omega) ?_
  rintro v h3 ⟨hv, σ2, hh, hI2⟩
  rw [hv, hh]
  refine ga_icmp_eq (tgt := 1011) dL_law_993 rfl (fun _ => ?_) (fun c => absurd rfl c)
  exact K _ _ σ2 _ _ (by omega) (by omega) hI2
theorem law_tested {L : Nat} {xs : Nat → Int32} (hL : L ≤ 2560) (i : Nat) (hi : i + 5 ≤ L) (kc ks : Nat) (hkc : kc + 1 ≤ 601024) (hks : ks + 6 ≤ 7293034) (σ : ga_S) (hI : IvO σ) (y5 y6 : Option ga_V) (K : ∀ (kc2 ks2 : Nat) (τ : ga_S) (z5 z6 : Option ga_V), kc2 ≤ kc + 1 → ks2 ≤ ks + 6 → IvO τ → ga_W 11 601024 7293034 kc2 ks2 (mL_law L xs) (fun v _ => v = some (Vi 1)) ga_nox 1011 [some (Vr ga_scr), some (Vr 0), some (Vr 63), some (Vr 88), some (Vi (i : Int)), z5, z6] [] (HP τ)) : ga_W 11 601024 7293034 kc ks (mL_law L xs) (fun v _ => v = some (Vi 1)) ga_nox 998 [some (Vr ga_scr), some (Vr 0), some (Vr 63), some (Vr 88), some (Vi (i : Int)), y5, y6] [] (HP σ) := by
  obtain ⟨a, τ, hQ, ⟨t1, ht1, hC⟩, t3, ht3, hR⟩ := ST_tested hI
  refine ga_aload_n dL_law_998 rfl ?_
  refine ga_callV hC fX10_tested rfl kX10_tested lkL_117 dL_law_999 rfl rfl (by omega) (HP_obj rfl) rfl (Nat.le_of_ble_eq_true rfl) (by omega) (by omega) ?_
  rintro v h3 ⟨hv, hh⟩
  rw [hv, hh]
  refine ga_aload_n dL_law_1002 rfl ?_
  refine ga_callV hR fX11_tested rfl kX11_tested lkL_121 dL_law_1003 rfl rfl (by omega) (HP_obj rfl) rfl (Nat.le_of_ble_eq_true rfl) (by omega) (by omega) ?_
  rintro v h3 ⟨hv, σ2, hh, hI2⟩
  rw [hv, hh]
  refine ga_icmp_eq (tgt := 1011) dL_law_1006 rfl (fun _ => ?_) (fun c => absurd rfl c)
  exact K _ _ σ2 _ _ (by omega) (by omega) hI2
