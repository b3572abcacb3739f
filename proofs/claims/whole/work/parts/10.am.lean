/-! ABSTRACT MACHINE, SHALLOW: values, cells, heaps of small numbers; 'ga_W' says that from a point (pc, locals, stack, heap) the method comes to its end with P, or throws with X. -/
-- words that stay
def ga_good2 : Cond → Bool
  | .fieldLinkNest .. => true
  | .methodLinkNest .. => true
  | .castable .. => true
  | .declares .. => true
  | w => goodWord w
def ga_big : List Cond := lw_tbl.filter ga_good2
theorem ga_mem {w : Cond} (h : w ∈ lw_tbl) (hg : ga_good2 w = true) : w ∈ ga_big := List.mem_filter.mpr ⟨h, hg⟩
theorem ga_warm {args : Array Value} {s : State} (hts : ∀ w ∈ ga_big, w.before args s = true) : ∀ w ∈ ga_big, ∀ (a' : Array Value) (U : State), s.WarmedH U.vm → w.before a' U = true := by
  intro w hw a' U hW
  have h1 := hts w hw
  have hg := (List.mem_filter.mp hw).2
  cases w with
  | fieldLinkNest a i b n d h => exact va_Nw.use rfl (va_Nw.warmF hW (va_Nw.of rfl h1))
  | methodLinkNest a i x h => exact va_Nw.use rfl (va_Nw.warmM hW (va_Nw.of rfl h1))
  | castable C T => exact va_Nw.use rfl (va_Nw.warmC hW (va_Nw.of rfl h1))
  | declares x => exact va_Nw.use rfl (va_Nw.warmD hW (va_Nw.of rfl h1))
  | _ => exact word_at hW (good_of_word hg) h1
-- values
abbrev ga_V : Type := Int ⊕ (Option Nat) ⊕ UInt64 ⊕ Int
abbrev ga_K : Type := (Nat × List ga_V) ⊕ (Nat × Nat × (Int → Int)) ⊕ (Nat × (Int → UInt64)) ⊕ (Nat × (Int → Int))
abbrev ga_H : Type := List ga_K
abbrev Vi (x : Int) : ga_V := .inl x
abbrev Vr (k : Nat) : ga_V := .inr (.inl (some k))
abbrev Vn : ga_V := .inr (.inl none)
abbrev Vd (d : UInt64) : ga_V := .inr (.inr (.inl d))
abbrev Vl (x : Int) : ga_V := .inr (.inr (.inr x))
def ga_v (ad : Nat → Nat) : ga_V → Value
  | .inl x => .int (Int32.ofInt x)
  | .inr (.inl none) => .null
  | .inr (.inl (some k)) => .ref (ad k)
  | .inr (.inr (.inl d)) => .double d
  | .inr (.inr (.inr x)) => .long (Int64.ofInt x)
def ga_c2 : ga_V → Bool
  | .inr (.inr _) => true
  | _ => false
theorem ga_cat (ad : Nat → Nat) (v : ga_V) : (ga_v ad v).category = if ga_c2 v then 2 else 1 := by
  rcases v with x | (_ | k) | d | x <;> rfl
def ga_c (tc : Nat → ClassId) (ad : Nat → Nat) : ga_K → va_E
  | .inl o => .inr (o.1, o.2.map (ga_v ad))
  | .inr (.inl a) => .inl (tc a.1, a.2.1, .inl (fun j => Int32.ofInt (a.2.2 (j : Int))))
  | .inr (.inr (.inl a)) => .inl (tc 2, a.1, .inr (.inr (.inr (.inl (fun j => a.2 (j : Int))))))
  | .inr (.inr (.inr a)) => .inl (tc 3, a.1, .inr (.inl (fun j => Int64.ofInt (a.2 (j : Int)))))
def ga_w (tc : Nat → ClassId) (ad : Nat → Nat) (h : ga_H) : va_W := h.mapIdx (fun i c => (ad i, ga_c tc ad c))
theorem ga_w_get (tc : Nat → ClassId) (ad : Nat → Nat) (h : ga_H) (k : Nat) : (ga_w tc ad h)[k]? = h[k]?.map (fun c => (ad k, ga_c tc ad c)) := by
  unfold ga_w
  rw [List.getElem?_mapIdx]
theorem ga_w_at {tc : Nat → ClassId} {ad : Nat → Nat} {h : ga_H} {k : Nat} {c : ga_K} (hk : h[k]? = some c) : (ga_w tc ad h)[k]? = some (ad k, ga_c tc ad c) := by
  rw [ga_w_get, hk]; rfl
theorem ga_w_set (tc : Nat → ClassId) (ad : Nat → Nat) (h : ga_H) (k : Nat) (c : ga_K) : ga_w tc ad (h.set k c) = (ga_w tc ad h).set k (ad k, ga_c tc ad c) := by
  apply List.ext_getElem?
  intro i
  rw [ga_w_get, List.getElem?_set, List.getElem?_set, ga_w_get]
  unfold ga_w
  rw [List.length_mapIdx]
  by_cases hk : k = i
  · subst hk
    by_cases hl : k < h.length <;> simp [hl]
  · simp [hk]
theorem ga_w_push (tc : Nat → ClassId) (ad : Nat → Nat) (h : ga_H) (c : ga_K) : ga_w tc ad (h ++ [c]) = ga_w tc ad h ++ [(ad h.length, ga_c tc ad c)] := by
  unfold ga_w
  rw [List.mapIdx_append]
  simp
-- numbers in range
abbrev ga_scr : Nat := 1000000
def ga_inI (x : Int) : Prop := -2147483648 ≤ x ∧ x ≤ 2147483647
def ga_inL (x : Int) : Prop := -9223372036854775808 ≤ x ∧ x ≤ 9223372036854775807
def ga_ok (n : Nat) : ga_V → Prop
  | .inl x => ga_inI x
  | .inr (.inl none) => True
  | .inr (.inl (some k)) => k < n ∨ k = ga_scr
  | .inr (.inr (.inl _)) => True
  | .inr (.inr (.inr x)) => ga_inL x
def ga_okc (n : Nat) : ga_K → Prop
  | .inl o => ∀ v ∈ o.2, ga_ok n v
  | .inr (.inl a) => ∀ j, ga_inI (a.2.2 j)
  | .inr (.inr (.inl _)) => True
  | .inr (.inr (.inr a)) => ∀ j, ga_inL (a.2 j)
def ga_okh (h : ga_H) : Prop := ∀ c ∈ h, ga_okc h.length c
def ga_oks (n : Nat) (st : List ga_V) : Prop := ∀ v ∈ st, ga_ok n v
def ga_okl (n : Nat) (lv : List (Option ga_V)) : Prop := ∀ v, some v ∈ lv → ga_ok n v
theorem ga_ok.mono {n n' : Nat} (hn : n ≤ n') {v : ga_V} (h : ga_ok n v) : ga_ok n' v := by
  rcases v with x | (_ | k) | d | x
  · exact h
  · trivial
  · exact h.elim (fun q => Or.inl (by omega)) Or.inr
  · trivial
  · exact h
theorem ga_okc.mono {n n' : Nat} (hn : n ≤ n') {c : ga_K} (h : ga_okc n c) : ga_okc n' c := by
  rcases c with o | a | a | a
  · exact fun v hv => (h v hv).mono hn
  · exact h
  · trivial
  · exact h
theorem ga_oks.mono {n n' : Nat} (hn : n ≤ n') {st : List ga_V} (h : ga_oks n st) : ga_oks n' st := fun v hv => (h v hv).mono hn
theorem ga_okl.mono {n n' : Nat} (hn : n ≤ n') {lv : List (Option ga_V)} (h : ga_okl n lv) : ga_okl n' lv := fun v hv => (h v hv).mono hn
-- addresses that agree
def ga_ag (n : Nat) (ad ad' : Nat → Nat) : Prop := ∀ i, i < n ∨ i = ga_scr → ad' i = ad i
theorem ga_v_ag {n : Nat} {ad ad' : Nat → Nat} (h : ga_ag n ad ad') {v : ga_V} (hv : ga_ok n v) : ga_v ad' v = ga_v ad v := by
  rcases v with x | (_ | k) | d | x
  · rfl
  · rfl
  · show Value.ref _ = Value.ref _
    rw [h k hv]
  · rfl
  · rfl
theorem ga_map_ag {n : Nat} {ad ad' : Nat → Nat} (h : ga_ag n ad ad') {st : List ga_V} (hv : ga_oks n st) : st.map (ga_v ad') = st.map (ga_v ad) :=
  List.map_congr_left fun v hm => ga_v_ag h (hv v hm)
theorem ga_c_ag {n : Nat} {ad ad' : Nat → Nat} (tc : Nat → ClassId) (h : ga_ag n ad ad') {c : ga_K} (hv : ga_okc n c) : ga_c tc ad' c = ga_c tc ad c := by
  rcases c with o | a | a | a
  · show Sum.inr (o.1, _) = Sum.inr (o.1, _)
    rw [ga_map_ag h hv]
  · rfl
  · rfl
  · rfl
-- Int32 as numbers
theorem ga_toI {x : Int} (h : ga_inI x) : (Int32.ofInt x).toInt = x := by
  obtain ⟨h1, h2⟩ := h
  rw [Int32.toInt_ofInt, show Int32.size = 4294967296 from rfl]
  exact Int.bmod_eq_of_le (by omega) (by omega)
theorem ga_ofI (x : Int32) : Int32.ofInt x.toInt = x := Int32.ofInt_toInt x
theorem ga_inI32 (x : Int32) : ga_inI x.toInt := ⟨Int32.le_toInt x, by have := Int32.toInt_lt x; omega⟩
theorem ga_lt {x y : Int} (hx : ga_inI x) (hy : ga_inI y) : Int32.ofInt x < Int32.ofInt y ↔ x < y := by
  rw [Int32.lt_iff_toInt_lt, ga_toI hx, ga_toI hy]
theorem ga_le {x y : Int} (hx : ga_inI x) (hy : ga_inI y) : Int32.ofInt x ≤ Int32.ofInt y ↔ x ≤ y := by
  rw [Int32.le_iff_toInt_le, ga_toI hx, ga_toI hy]
theorem ga_eq {x y : Int} (hx : ga_inI x) (hy : ga_inI y) : Int32.ofInt x = Int32.ofInt y ↔ x = y := by
  rw [← Int32.toInt_inj, ga_toI hx, ga_toI hy]
theorem ga_in0 : ga_inI 0 := ⟨by decide, by decide⟩
theorem ga_0 : (0 : Int32) = Int32.ofInt 0 := rfl
theorem ga_eq0 {x : Int} (hx : ga_inI x) : Int32.ofInt x = 0 ↔ x = 0 := by rw [ga_0, ga_eq hx ga_in0]
theorem ga_lt0 {x : Int} (hx : ga_inI x) : Int32.ofInt x < 0 ↔ x < 0 := by rw [ga_0, ga_lt hx ga_in0]
theorem ga_le0 {x : Int} (hx : ga_inI x) : Int32.ofInt x ≤ 0 ↔ x ≤ 0 := by rw [ga_0, ga_le hx ga_in0]
theorem ga_clamp {x : Int} (hx : ga_inI x) : (Int32.ofInt x).toNatClampNeg = x.toNat := by
  rw [Int32.toNatClampNeg, ga_toI hx]
theorem ga_vpin {x : Int} {n : Nat} (hx : ga_inI x) (h0 : 0 ≤ x) (h1 : x < n) : vp_in (Int32.ofInt x) n := vp_in_iff.mpr (by rw [ga_toI hx]; exact ⟨h0, h1⟩)
theorem ga_toL {x : Int} (h : ga_inL x) : (Int64.ofInt x).toInt = x := by
  obtain ⟨h1, h2⟩ := h
  rw [Int64.toInt_ofInt, show Int64.size = 18446744073709551616 from rfl]
  exact Int.bmod_eq_of_le (by omega) (by omega)
theorem ga_ofL (x : Int64) : Int64.ofInt x.toInt = x := Int64.ofInt_toInt x
theorem ga_inL64 (x : Int64) : ga_inL x.toInt := ⟨Int64.le_toInt x, by have := Int64.toInt_lt x; omega⟩
-- locals
def ga_l (ad : Nat → Nat) : Nat → List (Option ga_V) → List (Nat × Value)
  | _, [] => []
  | i, none :: t => ga_l ad (i + 1) t
  | i, some v :: t => (i, ga_v ad v) :: ga_l ad (i + 1) t
theorem ga_l_mem {ad : Nat → Nat} : ∀ {lv : List (Option ga_V)} {i : Nat} {q : Nat × Value}, q ∈ ga_l ad i lv ↔ ∃ (k : Nat) (v : ga_V), lv[k]? = some (some v) ∧ q = (i + k, ga_v ad v)
  | [], i, q => by simp [ga_l]
  | none :: t, i, q => by
    rw [ga_l, ga_l_mem]
    constructor
    · rintro ⟨k, v, h, rfl⟩
      exact ⟨k + 1, v, by simpa using h, by rw [Nat.add_assoc, Nat.add_comm 1 k]⟩
    · rintro ⟨k, v, h, rfl⟩
      cases k with
      | zero => simp at h
      | succ k => exact ⟨k, v, by simpa using h, by rw [Nat.add_assoc, Nat.add_comm 1 k]⟩
  | some w :: t, i, q => by
    rw [ga_l, List.mem_cons, ga_l_mem]
    constructor
    · rintro (rfl | ⟨k, v, h, rfl⟩)
      · exact ⟨0, w, rfl, rfl⟩
      · exact ⟨k + 1, v, by simpa using h, by rw [Nat.add_assoc, Nat.add_comm 1 k]⟩
    · rintro ⟨k, v, h, rfl⟩
      cases k with
      | zero =>
        left
        simp at h
        rw [h]; rfl
      | succ k => exact Or.inr ⟨k, v, by simpa using h, by rw [Nat.add_assoc, Nat.add_comm 1 k]⟩
theorem ga_l_at {ad : Nat → Nat} {ls : Array Slot} {n : Nat} {lv : List (Option ga_V)} (h : lv_has ls n (ga_l ad 0 lv)) {k : Nat} {v : ga_V} (hk : lv[k]? = some (some v)) : ls[k]? = some (.val (ga_v ad v)) :=
  h.2.2 (k, ga_v ad v) (ga_l_mem.mpr ⟨k, v, hk, by rw [Nat.zero_add]⟩)
theorem ga_l_ag {n N : Nat} {ad ad' : Nat → Nat} {ls : Array Slot} {lv : List (Option ga_V)} (h : lv_has ls N (ga_l ad 0 lv)) (hag : ga_ag n ad ad') (hok : ga_okl n lv) : lv_has ls N (ga_l ad' 0 lv) := by
  refine ⟨h.1, h.2.1, fun q hq => ?_⟩
  obtain ⟨k, v, hk, rfl⟩ := ga_l_mem.mp hq
  rw [Nat.zero_add, ga_v_ag hag (hok v (List.mem_of_getElem? hk))]
  exact ga_l_at h hk
def ga_pc2 (lv : List (Option ga_V)) (i : Nat) : Bool := match i with
  | 0 => false
  | j + 1 => match lv[j]? with
    | some (some v) => ga_c2 v
    | _ => false
theorem ga_l_store1 {ad : Nat → Nat} {ls : Array Slot} {n i : Nat} {lv : List (Option ga_V)} {v : ga_V} (h : lv_has ls n ((i, ga_v ad v) :: (ga_l ad 0 lv).filter (fun q => !(q.1 == i) && !(q.1 + 1 == i && q.2.category == 2)))) (hp : ga_pc2 lv i = false) : lv_has ls n (ga_l ad 0 (lv.set i (some v))) := by
  refine ⟨h.1, h.2.1, fun q hq => ?_⟩
  obtain ⟨k, w, hk, rfl⟩ := ga_l_mem.mp hq
  rw [Nat.zero_add]
  by_cases hki : i = k
  · subst hki
    rw [List.getElem?_set] at hk
    simp only [if_true] at hk
    by_cases hl : i < lv.length
    · rw [if_pos hl] at hk
      cases hk
      exact h.2.2 (i, ga_v ad v) List.mem_cons_self
    · rw [if_neg hl] at hk
      cases hk
  · rw [List.getElem?_set_ne hki] at hk
    refine h.2.2 (k, ga_v ad w) (List.mem_cons_of_mem _ (List.mem_filter.mpr ⟨ga_l_mem.mpr ⟨k, w, hk, by rw [Nat.zero_add]⟩, ?_⟩))
    have h1 : (k == i) = false := by simp; omega
    simp only [h1, Bool.not_false, Bool.true_and, Bool.not_eq_true', Bool.and_eq_false_iff]
    by_cases h2 : k + 1 = i
    · right
      subst h2
      rw [ga_cat]
      simp only [ga_pc2, hk] at hp
      rw [hp]
      rfl
    · left
      simp; omega
theorem ga_l_store2 {ad : Nat → Nat} {ls : Array Slot} {n i : Nat} {lv : List (Option ga_V)} {v : ga_V} (h : lv_has ls n ((i, ga_v ad v) :: (ga_l ad 0 lv).filter (fun q => !(q.1 == i) && (!(q.1 == i + 1) && !(q.1 + 1 == i && q.2.category == 2))))) (hp : ga_pc2 lv i = false) : lv_has ls n (ga_l ad 0 ((lv.set i (some v)).set (i + 1) none)) := by
  refine ⟨h.1, h.2.1, fun q hq => ?_⟩
  obtain ⟨k, w, hk, rfl⟩ := ga_l_mem.mp hq
  rw [Nat.zero_add]
  by_cases hk1 : i + 1 = k
  · subst hk1
    rw [List.getElem?_set] at hk
    simp only [if_true] at hk
    split at hk <;> cases hk
  rw [List.getElem?_set_ne hk1] at hk
  by_cases hki : i = k
  · subst hki
    rw [List.getElem?_set] at hk
    simp only [if_true] at hk
    by_cases hl : i < lv.length
    · rw [if_pos hl] at hk
      cases hk
      exact h.2.2 (i, ga_v ad v) List.mem_cons_self
    · rw [if_neg hl] at hk
      cases hk
  · rw [List.getElem?_set_ne hki] at hk
    refine h.2.2 (k, ga_v ad w) (List.mem_cons_of_mem _ (List.mem_filter.mpr ⟨ga_l_mem.mpr ⟨k, w, hk, by rw [Nat.zero_add]⟩, ?_⟩))
    have h1 : (k == i) = false := by simp; omega
    have h3 : (k == i + 1) = false := by simp; omega
    simp only [h1, h3, Bool.not_false, Bool.true_and, Bool.not_eq_true', Bool.and_eq_false_iff]
    by_cases h2 : k + 1 = i
    · right
      subst h2
      rw [ga_cat]
      simp only [ga_pc2, hk] at hp
      rw [hp]
      rfl
    · left
      simp; omega
theorem ga_okl_set {n i : Nat} {lv : List (Option ga_V)} {v : ga_V} (h : ga_okl n lv) (hv : ga_ok n v) : ga_okl n (lv.set i (some v)) := fun w hw => by
  rcases List.mem_or_eq_of_mem_set hw with q | q
  · exact h w q
  · cases q; exact hv
theorem ga_okl_clr {n i : Nat} {lv : List (Option ga_V)} (h : ga_okl n lv) : ga_okl n (lv.set i none) := fun w hw => by
  rcases List.mem_or_eq_of_mem_set hw with q | q
  · exact h w q
  · cases q
-- updates
def ga_up {α : Type} (f : Int → α) (i : Int) (x : α) : Int → α := fun j => if j = i then x else f j
theorem ga_upI {f : Int → Int} {i x : Int} (h0 : 0 ≤ i) : upd (fun j : Nat => Int32.ofInt (f (j : Int))) i.toNat (Int32.ofInt x) = fun j : Nat => Int32.ofInt (ga_up f i x (j : Int)) := by
  funext j
  unfold upd ga_up
  by_cases h : j = i.toNat
  · rw [if_pos h, if_pos (by omega)]
  · rw [if_neg h, if_neg (by omega)]
theorem ga_upL {f : Int → Int} {i x : Int} (h0 : 0 ≤ i) : vp_updL (fun j : Nat => Int64.ofInt (f (j : Int))) i.toNat (Int64.ofInt x) = fun j : Nat => Int64.ofInt (ga_up f i x (j : Int)) := by
  funext j
  unfold vp_updL ga_up
  by_cases h : j = i.toNat
  · rw [if_pos h, if_pos (by omega)]
  · rw [if_neg h, if_neg (by omega)]
theorem ga_upD {f : Int → UInt64} {i : Int} {x : UInt64} (h0 : 0 ≤ i) : vf_upd (fun j : Nat => f (j : Int)) i.toNat x = fun j : Nat => ga_up f i x (j : Int) := by
  funext j
  unfold vf_upd ga_up
  by_cases h : j = i.toNat
  · rw [if_pos h, if_pos (by omega)]
  · rw [if_neg h, if_neg (by omega)]
theorem ga_cast {i : Int} (h0 : 0 ≤ i) : ((i.toNat : Nat) : Int) = i := Int.toNat_of_nonneg h0
