-- what the reference's truth rests on; least like ones
def core (σ : ga_S) : ga_S := (fun c => if 64 ≤ c ∧ c ≤ 72 then σ.1 c else fun _ => 0, fun c => if 64 ≤ c ∧ c ≤ 72 then σ.2 c else fun _ => 0)
theorem core_cg {σ τ : ga_S} (h : ∀ c, 64 ≤ c → c ≤ 72 → τ.1 c = σ.1 c ∧ τ.2 c = σ.2 c) : core τ = core σ := by
  unfold core
  congr 1
  · funext c
    by_cases q : 64 ≤ c ∧ c ≤ 72
    · rw [if_pos q, if_pos q, (h c q.1 q.2).1]
    · rw [if_neg q, if_neg q]
  · funext c
    by_cases q : 64 ≤ c ∧ c ≤ 72
    · rw [if_pos q, if_pos q, (h c q.1 q.2).2]
    · rw [if_neg q, if_neg q]
theorem core_exc {L : List Nat} {σ τ : ga_S} (h : exc L σ τ) (hL : ∀ c ∈ L, c < 64 ∨ 72 < c) : core τ = core σ :=
  core_cg (fun c c1 c2 => ⟨h.1 c (fun q => by have := hL c q; omega), by rw [h.2]⟩)
theorem cg {α : Sort _} (F : ga_S → α) (hF : ∀ σ, F σ = F (core σ)) {σ τ : ga_S} (h : core τ = core σ) : F τ = F σ := by rw [hF τ, hF σ, h]
theorem cg_bL {σ τ : ga_S} (h : core τ = core σ) : bL τ = bL σ := cg bL (fun _ => rfl) h
theorem cg_bU {σ τ : ga_S} (h : core τ = core σ) : bU τ = bU σ := cg bU (fun _ => rfl) h
theorem cg_relD {σ τ : ga_S} (h : core τ = core σ) : relD τ = relD σ := cg relD (fun _ => rfl) h
theorem cg_relN {σ τ : ga_S} (h : core τ = core σ) : relN τ = relN σ := cg relN (fun _ => rfl) h
theorem cg_wfR {σ τ : ga_S} (h : core τ = core σ) : wfR τ = wfR σ := cg wfR (fun _ => rfl) h
theorem cg_okN {σ τ : ga_S} (h : core τ = core σ) : okN τ = okN σ := cg okN (fun _ => rfl) h
theorem cg_okD {σ τ : ga_S} (h : core τ = core σ) : okD τ = okD σ := cg okD (fun _ => rfl) h
abbrev eqR (E : Int → Int → Prop) : Prop := (∀ x, E x x) ∧ (∀ x u, E x u → E u x) ∧ (∀ x u v, E x u → E u v → E x v)
section LsM
variable {L : Int → Prop} {E : Int → Int → Prop} {T : Nat}
theorem lst_at (e : eqR E) {a : Int} (a1 : 0 ≤ a) (a2 : a < T) (la : L a) : 0 ≤ lst L E T a ∧ lst L E T a ≤ a ∧ L (lst L E T a) ∧ E a (lst L E T a) ∧ ∀ u : Int, 0 ≤ u → u < lst L E T a → L u → ¬ E a u := by
  unfold lst
  rcases lstF_is (fun u => L u ∧ E a u) T with ⟨_, q⟩ | ⟨q1, q2, q3, q4⟩
  · exact absurd ⟨la, e.1 a⟩ (q a a1 a2)
  · refine ⟨q1, ?_, q3.1, q3.2, fun u u1 u2 lu w => q4 u u1 u2 ⟨lu, w⟩⟩
    rcases Int.lt_or_le a (lstF (fun u => L u ∧ E a u) T) with w | w
    · exact absurd ⟨la, e.1 a⟩ (q4 a a1 w)
    · exact w
theorem lst_lst (e : eqR E) {a : Int} (a1 : 0 ≤ a) (a2 : a < T) (la : L a) : lst L E T (lst L E T a) = lst L E T a := by
  have h := lst_at e a1 a2 la
  exact (lst_eq e.1 e.2.1 e.2.2 h.1 (by omega) a1 a2 h.2.2.1 la).mpr (e.2.1 _ _ h.2.2.2.1)
/-- the least like one; of what isn't there itself -/
noncomputable def lsM (L : Int → Prop) (E : Int → Int → Prop) (T : Nat) (a : Int) : Int := tif (L a) (lst L E T a) a
theorem lsM_y {a : Int} (h : L a) : lsM L E T a = lst L E T a := tif1 h
theorem lsM_n {a : Int} (h : ¬ L a) : lsM L E T a = a := tif0 h
/-- those that are first -/
theorem lst_fst (e : eqR E) {a : Int} (a1 : 0 ≤ a) (a2 : a < T) (la : L a) : lst L E T a = a ↔ ∀ u : Int, 0 ≤ u → u < a → L u → ¬ E a u := by
  have h := lst_at e a1 a2 la
  constructor
  · intro q
    rw [q] at h
    exact h.2.2.2.2
  · intro q
    rcases Int.lt_or_le (lst L E T a) a with w | w
    · exact absurd h.2.2.2.1 (q _ h.1 w h.2.2.1)
    · omega
theorem nF_lst (e : eqR E) {R : Int → Int} (hR : ∀ x u : Int, 0 ≤ x → x < T → 0 ≤ u → u < T → L x → L u → (R x = R u ↔ E x u)) : nF L R T = sz (fun x => tv (L x ∧ lsM L E T x = x)) T := by
  unfold nF
  apply sz_congr
  intro x hx
  apply tv_congr
  constructor
  · rintro ⟨lx, h⟩
    refine ⟨lx, ?_⟩
    rw [lsM_y lx, lst_fst e (by omega) (by omega) lx]
    exact fun u u1 u2 lu w => h u u1 u2 lu ((hR x u (by omega) (by omega) u1 (by omega) lx lu).mpr w).symm
  · rintro ⟨lx, h⟩
    rw [lsM_y lx, lst_fst e (by omega) (by omega) lx] at h
    exact ⟨lx, fun u u1 u2 lu w => h u u1 u2 lu ((hR x u (by omega) (by omega) u1 (by omega) lx lu).mp w.symm)⟩
end LsM
def cpF (f g : Int → Int) (n : Int) : Int → Int := fun j => if 0 ≤ j ∧ j < n then g j else f j
theorem cpF_s (f g : Int → Int) (i : Nat) : ga_up (cpF f g i) (i : Int) (g i) = cpF f g ((i + 1 : Nat) : Int) := by
  funext j
  unfold ga_up cpF
  split
  · rename_i h; rw [if_pos (by omega), h]
  · rename_i h
    by_cases q : 0 ≤ j ∧ j < (i : Int)
    · rw [if_pos q, if_pos (by omega)]
    · rw [if_neg q, if_neg (by omega)]
theorem cpF_0 (f g : Int → Int) : cpF f g ((0 : Nat) : Int) = f := by
  funext j
  unfold cpF
  rw [if_neg (by omega)]
theorem cpF_in {f g : Int → Int} {n j : Int} (h1 : 0 ≤ j) (h2 : j < n) : cpF f g n j = g j := if_pos ⟨h1, h2⟩
theorem T_X11_take (σ : ga_S) : ga_Mt 0 0 0 mX11_take [Vr 63] (HP σ) (gis none (stI (stI σ 73 (cpF (σ.1 73) (σ.1 75) (60 : Nat))) 74 (cpF (σ.1 74) (σ.1 76) (80 : Nat)))) ga_nox := by
  refine ga_meth [some (Vr 63), none] rfl rfl (by decide +kernel) (Nat.le_of_ble_eq_true rfl) rfl ?_
  refine ga_iconst dX11_take_0 ⟨by decide, by decide⟩ ?_
  refine ga_istore_n (lv2 := [_, _]) dX11_take_1 (by decide) rfl rfl ?_
  refine ga_eqh (h2 := HP (stI σ 73 (cpF (σ.1 73) (σ.1 75) ((0 : Nat) : Int)))) (by rw [cpF_0, stI_self]) ?_
  refine (ga_loop 60 (fun i => ga_W 0 0 0 0 0 mX11_take (gis none (stI (stI σ 73 (cpF (σ.1 73) (σ.1 75) (60 : Nat))) 74 (cpF (σ.1 74) (σ.1 76) (80 : Nat)))) ga_nox 2 [some (Vr 63), some (Vi (i : Int))] [] (HP (stI σ 73 (cpF (σ.1 73) (σ.1 75) i)))) ?_ ?_ 0 (Nat.zero_le _) : _)
  · refine ga_iload_n dX11_take_2 rfl ?_
    refine ga_bipush dX11_take_3 ⟨by decide, by decide⟩ (by decide) ?_
    refine ga_icmp_ge (tgt := 26) dX11_take_5 rfl (fun c_5 => ?_) (fun c_5 => ?_)
    · refine ga_iconst dX11_take_26 ⟨by decide, by decide⟩ ?_
      refine ga_istore_n (lv2 := [_, _]) dX11_take_27 (by decide) rfl rfl ?_
      refine ga_eqh (h2 := HP (stI (stI σ 73 (cpF (σ.1 73) (σ.1 75) (60 : Nat))) 74 (cpF (σ.1 74) (σ.1 76) ((0 : Nat) : Int)))) (by rw [cpF_0]; rw [show stI (stI σ 73 (cpF (σ.1 73) (σ.1 75) (60 : Nat))) 74 (σ.1 74) = stI σ 73 (cpF (σ.1 73) (σ.1 75) (60 : Nat)) from stI_self _ 74]) ?_
      refine (ga_loop 80 (fun i => ga_W 0 0 0 0 0 mX11_take (gis none (stI (stI σ 73 (cpF (σ.1 73) (σ.1 75) (60 : Nat))) 74 (cpF (σ.1 74) (σ.1 76) (80 : Nat)))) ga_nox 28 [some (Vr 63), some (Vi (i : Int))] [] (HP (stI (stI σ 73 (cpF (σ.1 73) (σ.1 75) (60 : Nat))) 74 (cpF (σ.1 74) (σ.1 76) i)))) ?_ ?_ 0 (Nat.zero_le _) : _)
      · refine ga_iload_n dX11_take_28 rfl ?_
        refine ga_bipush dX11_take_29 ⟨by decide, by decide⟩ (by decide) ?_
        refine ga_icmp_ge (tgt := 52) dX11_take_31 rfl (fun c_31 => ?_) (fun c_31 => ?_)
        · refine ga_ret (v := none) ?_ rfl (by decide) (by decide) ⟨dX11_take_52, rfl⟩
          exact ⟨rfl, rfl⟩
        · omega
      · intro i hi k
        rw [← cpF_s _ _ i] at k
        refine ga_iload_n dX11_take_28 rfl ?_
        refine ga_bipush dX11_take_29 ⟨by decide, by decide⟩ (by decide) ?_
        refine ga_icmp_ge (tgt := 52) dX11_take_31 rfl (fun c_31 => ?_) (fun c_31 => ?_)
        · omega
        · have e76 : (stI (stI σ 73 (cpF (σ.1 73) (σ.1 75) (60 : Nat))) 74 (cpF (σ.1 74) (σ.1 76) i)).1 76 = σ.1 76 := rfl
          refine ga_aload_n dX11_take_34 rfl ?_
          refine hg_getR grX11_42 dX11_take_35 rfl rfl ?_
          refine ga_iload_n dX11_take_38 rfl ?_
          refine ga_aload_n dX11_take_39 rfl ?_
          refine hg_getR grX11_48 dX11_take_40 rfl rfl ?_
          refine ga_iload_n dX11_take_43 rfl ?_
          refine hg_iald dX11_take_44 rfl (by omega) (by omega) ?_
          refine hg_iast dX11_take_45 rfl (by omega) (by omega) ?_
          refine ga_iinc (z := ((i + 1 : Nat) : Int)) (lv2 := [_, _]) dX11_take_46 (by decide) rfl rfl (by omega) (⟨by omega, by omega⟩) rfl ?_
          refine ga_goto (tgt := 28) dX11_take_49 rfl ?_
          rw [stI_st, stI_at, e76]
          exact k
    · omega
  · intro i hi k
    rw [← cpF_s _ _ i] at k
    refine ga_iload_n dX11_take_2 rfl ?_
    refine ga_bipush dX11_take_3 ⟨by decide, by decide⟩ (by decide) ?_
    refine ga_icmp_ge (tgt := 26) dX11_take_5 rfl (fun c_5 => ?_) (fun c_5 => ?_)
    · omega
    · have e75 : (stI σ 73 (cpF (σ.1 73) (σ.1 75) i)).1 75 = σ.1 75 := rfl
      refine ga_aload_n dX11_take_8 rfl ?_
      refine hg_getR grX11_39 dX11_take_9 rfl rfl ?_
      refine ga_iload_n dX11_take_12 rfl ?_
      refine ga_aload_n dX11_take_13 rfl ?_
      refine hg_getR grX11_45 dX11_take_14 rfl rfl ?_
      refine ga_iload_n dX11_take_17 rfl ?_
      refine hg_iald dX11_take_18 rfl (by omega) (by omega) ?_
      refine hg_iast dX11_take_19 rfl (by omega) (by omega) ?_
      refine ga_iinc (z := ((i + 1 : Nat) : Int)) (lv2 := [_, _]) dX11_take_20 (by decide) rfl rfl (by omega) (⟨by omega, by omega⟩) rfl ?_
      refine ga_goto (tgt := 2) dX11_take_23 rfl ?_
      rw [stI_st, stI_at, e75]
      exact k
