theorem ga_t1 {w : Cond} (i : Nat) (h : tables_1_1[i]? = some w) (hg : ga_good2 w = true) : w ∈ ga_big := by
  have h9 : w ∈ tables_1_1 := List.mem_of_getElem? h
  exact ga_mem (List.mem_append_right _ (show w ∈ tables_1 from List.mem_append_left _ h9)) hg
theorem ga_t2 {w : Cond} (i : Nat) (h : tables_1_2[i]? = some w) (hg : ga_good2 w = true) : w ∈ ga_big := by
  have h9 : w ∈ tables_1_2 := List.mem_of_getElem? h
  exact ga_mem (List.mem_append_right _ (show w ∈ tables_1 from List.mem_append_right _ (List.mem_append_left _ h9))) hg
theorem ga_t3 {w : Cond} (i : Nat) (h : tables_1_3[i]? = some w) (hg : ga_good2 w = true) : w ∈ ga_big := by
  have h9 : w ∈ tables_1_3 := List.mem_of_getElem? h
  exact ga_mem (List.mem_append_right _ (show w ∈ tables_1 from List.mem_append_right _ (List.mem_append_right _ (List.mem_append_left _ h9)))) hg
theorem ga_t4 {w : Cond} (i : Nat) (h : tables_1_4[i]? = some w) (hg : ga_good2 w = true) : w ∈ ga_big := by
  have h9 : w ∈ tables_1_4 := List.mem_of_getElem? h
  exact ga_mem (List.mem_append_right _ (show w ∈ tables_1 from List.mem_append_right _ (List.mem_append_right _ (List.mem_append_right _ (List.mem_append_left _ h9))))) hg
theorem ga_t5 {w : Cond} (i : Nat) (h : tables_1_5[i]? = some w) (hg : ga_good2 w = true) : w ∈ ga_big := by
  have h9 : w ∈ tables_1_5 := List.mem_of_getElem? h
  exact ga_mem (List.mem_append_right _ (show w ∈ tables_1 from List.mem_append_right _ (List.mem_append_right _ (List.mem_append_right _ (List.mem_append_right _ (List.mem_append_left _ h9)))))) hg
theorem ga_t6 {w : Cond} (i : Nat) (h : tables_1_6[i]? = some w) (hg : ga_good2 w = true) : w ∈ ga_big := by
  have h9 : w ∈ tables_1_6 := List.mem_of_getElem? h
  exact ga_mem (List.mem_append_right _ (show w ∈ tables_1 from List.mem_append_right _ (List.mem_append_right _ (List.mem_append_right _ (List.mem_append_right _ (List.mem_append_right _ h9)))))) hg
theorem ga_tp {w : Cond} (i : Nat) (h : (k2_sels lw_privs)[i]? = some w) (hg : ga_good2 w = true) : w ∈ ga_big := ga_mem (List.mem_append_left _ (List.mem_of_getElem? h)) hg
theorem uwX0 : ∀ w ∈ u_ws RX0 TX0 5, w ∈ ga_big := by
  intro w hw
  obtain ⟨k, hk, rfl⟩ := List.mem_map.mp hw
  have hk9 := List.mem_range.mp hk
  clear hk hw
  rcases Nat.lt_or_ge k 1 with q | q
  · obtain rfl : k = 0 := by omega
    exact (ga_t1 198 (by decide +kernel) rfl)
  rcases Nat.lt_or_ge k 2 with q | q
  · obtain rfl : k = 1 := by omega
    exact (ga_t1 200 (by decide +kernel) rfl)
  rcases Nat.lt_or_ge k 3 with q | q
  · obtain rfl : k = 2 := by omega
    exact (ga_t1 202 (by decide +kernel) rfl)
  rcases Nat.lt_or_ge k 4 with q | q
  · obtain rfl : k = 3 := by omega
    exact (ga_t1 204 (by decide +kernel) rfl)
  rcases Nat.lt_or_ge k 5 with q | q
  · obtain rfl : k = 4 := by omega
    exact (ga_t1 206 (by decide +kernel) rfl)
  omega
theorem uwX1 : ∀ w ∈ u_ws RX1 TX1 3, w ∈ ga_big := by
  intro w hw
  obtain ⟨k, hk, rfl⟩ := List.mem_map.mp hw
  have hk9 := List.mem_range.mp hk
  clear hk hw
  rcases Nat.lt_or_ge k 1 with q | q
  · obtain rfl : k = 0 := by omega
    exact (ga_t1 132 (by decide +kernel) rfl)
  rcases Nat.lt_or_ge k 2 with q | q
  · obtain rfl : k = 1 := by omega
    exact (ga_t1 134 (by decide +kernel) rfl)
  rcases Nat.lt_or_ge k 3 with q | q
  · obtain rfl : k = 2 := by omega
    exact (ga_t1 136 (by decide +kernel) rfl)
  omega
theorem uwX2 : ∀ w ∈ u_ws RX2 TX2 3, w ∈ ga_big := by
  intro w hw
  obtain ⟨k, hk, rfl⟩ := List.mem_map.mp hw
  have hk9 := List.mem_range.mp hk
  clear hk hw
  rcases Nat.lt_or_ge k 1 with q | q
  · obtain rfl : k = 0 := by omega
    exact (ga_t2 75 (by decide +kernel) rfl)
  rcases Nat.lt_or_ge k 2 with q | q
  · obtain rfl : k = 1 := by omega
    exact (ga_t2 77 (by decide +kernel) rfl)
  rcases Nat.lt_or_ge k 3 with q | q
  · obtain rfl : k = 2 := by omega
    exact (ga_t2 79 (by decide +kernel) rfl)
  omega
theorem uwX3 : ∀ w ∈ u_ws RX3 TX3 1, w ∈ ga_big := by
  intro w hw
  obtain ⟨k, hk, rfl⟩ := List.mem_map.mp hw
  have hk9 := List.mem_range.mp hk
  clear hk hw
  rcases Nat.lt_or_ge k 1 with q | q
  · obtain rfl : k = 0 := by omega
    exact (ga_t1 146 (by decide +kernel) rfl)
  omega
theorem uwX4 : ∀ w ∈ u_ws RX4 TX4 2, w ∈ ga_big := by
  intro w hw
  obtain ⟨k, hk, rfl⟩ := List.mem_map.mp hw
  have hk9 := List.mem_range.mp hk
  clear hk hw
  rcases Nat.lt_or_ge k 1 with q | q
  · obtain rfl : k = 0 := by omega
    exact (ga_t1 111 (by decide +kernel) rfl)
  rcases Nat.lt_or_ge k 2 with q | q
  · obtain rfl : k = 1 := by omega
    exact (ga_t1 113 (by decide +kernel) rfl)
  omega
theorem uwX5 : ∀ w ∈ u_ws RX5 TX5 5, w ∈ ga_big := by
  intro w hw
  obtain ⟨k, hk, rfl⟩ := List.mem_map.mp hw
  have hk9 := List.mem_range.mp hk
  clear hk hw
  rcases Nat.lt_or_ge k 1 with q | q
  · obtain rfl : k = 0 := by omega
    exact (ga_t2 53 (by decide +kernel) rfl)
  rcases Nat.lt_or_ge k 2 with q | q
  · obtain rfl : k = 1 := by omega
    exact (ga_t2 55 (by decide +kernel) rfl)
  rcases Nat.lt_or_ge k 3 with q | q
  · obtain rfl : k = 2 := by omega
    exact (ga_t2 57 (by decide +kernel) rfl)
  rcases Nat.lt_or_ge k 4 with q | q
  · obtain rfl : k = 3 := by omega
    exact (ga_t2 59 (by decide +kernel) rfl)
  rcases Nat.lt_or_ge k 5 with q | q
  · obtain rfl : k = 4 := by omega
    exact (ga_t2 61 (by decide +kernel) rfl)
  omega
theorem uwX6 : ∀ w ∈ u_ws RX6 TX6 4, w ∈ ga_big := by
  intro w hw
  obtain ⟨k, hk, rfl⟩ := List.mem_map.mp hw
  have hk9 := List.mem_range.mp hk
  clear hk hw
  rcases Nat.lt_or_ge k 1 with q | q
  · obtain rfl : k = 0 := by omega
    exact (ga_t1 229 (by decide +kernel) rfl)
  rcases Nat.lt_or_ge k 2 with q | q
  · obtain rfl : k = 1 := by omega
    exact (ga_t1 231 (by decide +kernel) rfl)
  rcases Nat.lt_or_ge k 3 with q | q
  · obtain rfl : k = 2 := by omega
    exact (ga_t1 233 (by decide +kernel) rfl)
  rcases Nat.lt_or_ge k 4 with q | q
  · obtain rfl : k = 3 := by omega
    exact (ga_t1 235 (by decide +kernel) rfl)
  omega
theorem uwX7 : ∀ w ∈ u_ws RX7 TX7 9, w ∈ ga_big := by
  intro w hw
  obtain ⟨k, hk, rfl⟩ := List.mem_map.mp hw
  have hk9 := List.mem_range.mp hk
  clear hk hw
  rcases Nat.lt_or_ge k 1 with q | q
  · obtain rfl : k = 0 := by omega
    exact (ga_t1 171 (by decide +kernel) rfl)
  rcases Nat.lt_or_ge k 2 with q | q
  · obtain rfl : k = 1 := by omega
    exact (ga_t1 173 (by decide +kernel) rfl)
  rcases Nat.lt_or_ge k 3 with q | q
  · obtain rfl : k = 2 := by omega
    exact (ga_t1 175 (by decide +kernel) rfl)
  rcases Nat.lt_or_ge k 4 with q | q
  · obtain rfl : k = 3 := by omega
    exact (ga_t1 177 (by decide +kernel) rfl)
  rcases Nat.lt_or_ge k 5 with q | q
  · obtain rfl : k = 4 := by omega
    exact (ga_t1 179 (by decide +kernel) rfl)
  rcases Nat.lt_or_ge k 6 with q | q
  · obtain rfl : k = 5 := by omega
    exact (ga_t1 181 (by decide +kernel) rfl)
  rcases Nat.lt_or_ge k 7 with q | q
  · obtain rfl : k = 6 := by omega
    exact (ga_t1 183 (by decide +kernel) rfl)
  rcases Nat.lt_or_ge k 8 with q | q
  · obtain rfl : k = 7 := by omega
    exact (ga_t1 185 (by decide +kernel) rfl)
  rcases Nat.lt_or_ge k 9 with q | q
  · obtain rfl : k = 8 := by omega
    exact (ga_t1 187 (by decide +kernel) rfl)
  omega
theorem uwX8 : ∀ w ∈ u_ws RX8 TX8 11, w ∈ ga_big := by
  intro w hw
  obtain ⟨k, hk, rfl⟩ := List.mem_map.mp hw
  have hk9 := List.mem_range.mp hk
  clear hk hw
  rcases Nat.lt_or_ge k 1 with q | q
  · obtain rfl : k = 0 := by omega
    exact (ga_t2 9 (by decide +kernel) rfl)
  rcases Nat.lt_or_ge k 2 with q | q
  · obtain rfl : k = 1 := by omega
    exact (ga_t2 11 (by decide +kernel) rfl)
  rcases Nat.lt_or_ge k 3 with q | q
  · obtain rfl : k = 2 := by omega
    exact (ga_t2 13 (by decide +kernel) rfl)
  rcases Nat.lt_or_ge k 4 with q | q
  · obtain rfl : k = 3 := by omega
    exact (ga_t2 15 (by decide +kernel) rfl)
  rcases Nat.lt_or_ge k 5 with q | q
  · obtain rfl : k = 4 := by omega
    exact (ga_t2 17 (by decide +kernel) rfl)
  rcases Nat.lt_or_ge k 6 with q | q
  · obtain rfl : k = 5 := by omega
    exact (ga_t2 19 (by decide +kernel) rfl)
  rcases Nat.lt_or_ge k 7 with q | q
  · obtain rfl : k = 6 := by omega
    exact (ga_t2 21 (by decide +kernel) rfl)
  rcases Nat.lt_or_ge k 8 with q | q
  · obtain rfl : k = 7 := by omega
    exact (ga_t2 23 (by decide +kernel) rfl)
  rcases Nat.lt_or_ge k 9 with q | q
  · obtain rfl : k = 8 := by omega
    exact (ga_t2 25 (by decide +kernel) rfl)
  rcases Nat.lt_or_ge k 10 with q | q
  · obtain rfl : k = 9 := by omega
    exact (ga_t2 27 (by decide +kernel) rfl)
  rcases Nat.lt_or_ge k 11 with q | q
  · obtain rfl : k = 10 := by omega
    exact (ga_t2 29 (by decide +kernel) rfl)
  omega
theorem uwX9 : ∀ w ∈ u_ws RX9 TX9 8, w ∈ ga_big := by
  intro w hw
  obtain ⟨k, hk, rfl⟩ := List.mem_map.mp hw
  have hk9 := List.mem_range.mp hk
  clear hk hw
  rcases Nat.lt_or_ge k 1 with q | q
  · obtain rfl : k = 0 := by omega
    exact (ga_t1 83 (by decide +kernel) rfl)
  rcases Nat.lt_or_ge k 2 with q | q
  · obtain rfl : k = 1 := by omega
    exact (ga_t1 85 (by decide +kernel) rfl)
  rcases Nat.lt_or_ge k 3 with q | q
  · obtain rfl : k = 2 := by omega
    exact (ga_t1 87 (by decide +kernel) rfl)
  rcases Nat.lt_or_ge k 4 with q | q
  · obtain rfl : k = 3 := by omega
    exact (ga_t1 89 (by decide +kernel) rfl)
  rcases Nat.lt_or_ge k 5 with q | q
  · obtain rfl : k = 4 := by omega
    exact (ga_t1 91 (by decide +kernel) rfl)
  rcases Nat.lt_or_ge k 6 with q | q
  · obtain rfl : k = 5 := by omega
    exact (ga_t1 93 (by decide +kernel) rfl)
  rcases Nat.lt_or_ge k 7 with q | q
  · obtain rfl : k = 6 := by omega
    exact (ga_t1 95 (by decide +kernel) rfl)
  rcases Nat.lt_or_ge k 8 with q | q
  · obtain rfl : k = 7 := by omega
    exact (ga_t1 97 (by decide +kernel) rfl)
  omega
theorem uwX10 : ∀ w ∈ u_ws RX10 TX10 8, w ∈ ga_big := by
  intro w hw
  obtain ⟨k, hk, rfl⟩ := List.mem_map.mp hw
  have hk9 := List.mem_range.mp hk
  clear hk hw
  rcases Nat.lt_or_ge k 1 with q | q
  · obtain rfl : k = 0 := by omega
    exact (ga_t2 90 (by decide +kernel) rfl)
  rcases Nat.lt_or_ge k 2 with q | q
  · obtain rfl : k = 1 := by omega
    exact (ga_t2 92 (by decide +kernel) rfl)
  rcases Nat.lt_or_ge k 3 with q | q
  · obtain rfl : k = 2 := by omega
    exact (ga_t2 94 (by decide +kernel) rfl)
  rcases Nat.lt_or_ge k 4 with q | q
  · obtain rfl : k = 3 := by omega
    exact (ga_t2 96 (by decide +kernel) rfl)
  rcases Nat.lt_or_ge k 5 with q | q
  · obtain rfl : k = 4 := by omega
    exact (ga_t2 98 (by decide +kernel) rfl)
  rcases Nat.lt_or_ge k 6 with q | q
  · obtain rfl : k = 5 := by omega
    exact (ga_t2 100 (by decide +kernel) rfl)
  rcases Nat.lt_or_ge k 7 with q | q
  · obtain rfl : k = 6 := by omega
    exact (ga_t2 102 (by decide +kernel) rfl)
  rcases Nat.lt_or_ge k 8 with q | q
  · obtain rfl : k = 7 := by omega
    exact (ga_t2 104 (by decide +kernel) rfl)
  omega
theorem uwX11 : ∀ w ∈ u_ws RX11 TX11 32, w ∈ ga_big := by
  intro w hw
  obtain ⟨k, hk, rfl⟩ := List.mem_map.mp hw
  have hk9 := List.mem_range.mp hk
  clear hk hw
  rcases Nat.lt_or_ge k 1 with q | q
  · obtain rfl : k = 0 := by omega
    exact (ga_t4 207 (by decide +kernel) rfl)
  rcases Nat.lt_or_ge k 2 with q | q
  · obtain rfl : k = 1 := by omega
    exact (ga_t4 209 (by decide +kernel) rfl)
  rcases Nat.lt_or_ge k 3 with q | q
  · obtain rfl : k = 2 := by omega
    exact (ga_t4 211 (by decide +kernel) rfl)
  rcases Nat.lt_or_ge k 4 with q | q
  · obtain rfl : k = 3 := by omega
    exact (ga_t4 213 (by decide +kernel) rfl)
  rcases Nat.lt_or_ge k 5 with q | q
  · obtain rfl : k = 4 := by omega
    exact (ga_t4 215 (by decide +kernel) rfl)
  rcases Nat.lt_or_ge k 6 with q | q
  · obtain rfl : k = 5 := by omega
    exact (ga_t4 217 (by decide +kernel) rfl)
  rcases Nat.lt_or_ge k 7 with q | q
  · obtain rfl : k = 6 := by omega
    exact (ga_t4 219 (by decide +kernel) rfl)
  rcases Nat.lt_or_ge k 8 with q | q
  · obtain rfl : k = 7 := by omega
    exact (ga_t4 221 (by decide +kernel) rfl)
  rcases Nat.lt_or_ge k 9 with q | q
  · obtain rfl : k = 8 := by omega
    exact (ga_t4 223 (by decide +kernel) rfl)
  rcases Nat.lt_or_ge k 10 with q | q
  · obtain rfl : k = 9 := by omega
    exact (ga_t4 225 (by decide +kernel) rfl)
  rcases Nat.lt_or_ge k 11 with q | q
  · obtain rfl : k = 10 := by omega
    exact (ga_t4 227 (by decide +kernel) rfl)
  rcases Nat.lt_or_ge k 12 with q | q
  · obtain rfl : k = 11 := by omega
    exact (ga_t4 229 (by decide +kernel) rfl)
  rcases Nat.lt_or_ge k 13 with q | q
  · obtain rfl : k = 12 := by omega
    exact (ga_t4 231 (by decide +kernel) rfl)
  rcases Nat.lt_or_ge k 14 with q | q
  · obtain rfl : k = 13 := by omega
    exact (ga_t4 233 (by decide +kernel) rfl)
  rcases Nat.lt_or_ge k 15 with q | q
  · obtain rfl : k = 14 := by omega
    exact (ga_t4 235 (by decide +kernel) rfl)
  rcases Nat.lt_or_ge k 16 with q | q
  · obtain rfl : k = 15 := by omega
    exact (ga_t4 237 (by decide +kernel) rfl)
  rcases Nat.lt_or_ge k 17 with q | q
  · obtain rfl : k = 16 := by omega
    exact (ga_t4 239 (by decide +kernel) rfl)
  rcases Nat.lt_or_ge k 18 with q | q
  · obtain rfl : k = 17 := by omega
    exact (ga_t5 1 (by decide +kernel) rfl)
  rcases Nat.lt_or_ge k 19 with q | q
  · obtain rfl : k = 18 := by omega
    exact (ga_t5 3 (by decide +kernel) rfl)
  rcases Nat.lt_or_ge k 20 with q | q
  · obtain rfl : k = 19 := by omega
    exact (ga_t5 5 (by decide +kernel) rfl)
  rcases Nat.lt_or_ge k 21 with q | q
  · obtain rfl : k = 20 := by omega
    exact (ga_t5 7 (by decide +kernel) rfl)
  rcases Nat.lt_or_ge k 22 with q | q
  · obtain rfl : k = 21 := by omega
    exact (ga_t5 9 (by decide +kernel) rfl)
  rcases Nat.lt_or_ge k 23 with q | q
  · obtain rfl : k = 22 := by omega
    exact (ga_t5 11 (by decide +kernel) rfl)
  rcases Nat.lt_or_ge k 24 with q | q
  · obtain rfl : k = 23 := by omega
    exact (ga_t5 13 (by decide +kernel) rfl)
  rcases Nat.lt_or_ge k 25 with q | q
  · obtain rfl : k = 24 := by omega
    exact (ga_t5 15 (by decide +kernel) rfl)
  rcases Nat.lt_or_ge k 26 with q | q
  · obtain rfl : k = 25 := by omega
    exact (ga_t5 17 (by decide +kernel) rfl)
  rcases Nat.lt_or_ge k 27 with q | q
  · obtain rfl : k = 26 := by omega
    exact (ga_t5 19 (by decide +kernel) rfl)
  rcases Nat.lt_or_ge k 28 with q | q
  · obtain rfl : k = 27 := by omega
    exact (ga_t5 21 (by decide +kernel) rfl)
  rcases Nat.lt_or_ge k 29 with q | q
  · obtain rfl : k = 28 := by omega
    exact (ga_t5 23 (by decide +kernel) rfl)
  rcases Nat.lt_or_ge k 30 with q | q
  · obtain rfl : k = 29 := by omega
    exact (ga_t5 25 (by decide +kernel) rfl)
  rcases Nat.lt_or_ge k 31 with q | q
  · obtain rfl : k = 30 := by omega
    exact (ga_t5 27 (by decide +kernel) rfl)
  rcases Nat.lt_or_ge k 32 with q | q
  · obtain rfl : k = 31 := by omega
    exact (ga_t5 29 (by decide +kernel) rfl)
  omega
abbrev mX0_init : ga_M0 := (yX0_init, cX0_init, 1, none, [], none)
theorem fX0_init : ga_MF mX0_init 0 := ⟨(ga_t1 153 (by decide +kernel) rfl), (ga_t1 7 (by decide +kernel) rfl), ⟨by decide +kernel, by decide +kernel⟩, by decide +kernel, by decide⟩
theorem kX0_init : ga_MI mX0_init := ⟨rfl, (ga_t1 152 (by decide +kernel) rfl), rfl⟩
abbrev mX0_divide : ga_M0 := (yX0_divide, cX0_divide, 3, none, [], none)
theorem fX0_divide : ga_MF mX0_divide 1 := ⟨(ga_t3 206 (by decide +kernel) rfl), (ga_t1 7 (by decide +kernel) rfl), ⟨by decide +kernel, by decide +kernel⟩, by decide +kernel, by decide⟩
theorem kX0_divide : ga_MV mX0_divide := ⟨(ga_t3 204 (by decide +kernel) rfl), (ga_t3 205 (by decide +kernel) rfl)⟩
abbrev mX0_classOf : ga_M0 := (yX0_classOf, cX0_classOf, 3, (some .int), [], none)
theorem fX0_classOf : ga_MF mX0_classOf 2 := ⟨(ga_t4 21 (by decide +kernel) rfl), (ga_t1 7 (by decide +kernel) rfl), ⟨by decide +kernel, by decide +kernel⟩, by decide +kernel, by decide⟩
theorem kX0_classOf : ga_MV mX0_classOf := ⟨(ga_t4 19 (by decide +kernel) rfl), (ga_t4 20 (by decide +kernel) rfl)⟩
abbrev mX0_alikeOnFirstSide : ga_M0 := (yX0_alikeOnFirstSide, cX0_alikeOnFirstSide, 4, (some .int), [], none)
theorem fX0_alikeOnFirstSide : ga_MF mX0_alikeOnFirstSide 1 := ⟨(ga_t4 92 (by decide +kernel) rfl), (ga_t1 7 (by decide +kernel) rfl), ⟨by decide +kernel, by decide +kernel⟩, by decide +kernel, by decide⟩
theorem kX0_alikeOnFirstSide : ga_MV mX0_alikeOnFirstSide := ⟨(ga_t4 90 (by decide +kernel) rfl), (ga_t4 91 (by decide +kernel) rfl)⟩
abbrev mX0_enterAll : ga_M0 := (yX0_enterAll, cX0_enterAll, 5, none, [], none)
theorem fX0_enterAll : ga_MF mX0_enterAll 1 := ⟨(ga_t3 210 (by decide +kernel) rfl), (ga_t1 7 (by decide +kernel) rfl), ⟨by decide +kernel, by decide +kernel⟩, by decide +kernel, by decide⟩
theorem kX0_enterAll : ga_MV mX0_enterAll := ⟨(ga_t3 209 (by decide +kernel) rfl), (ga_tp 9 (by decide +kernel) rfl)⟩
abbrev mX0_makeRound : ga_M0 := (yX0_makeRound, cX0_makeRound, 5, (some .boolean), [], none)
theorem fX0_makeRound : ga_MF mX0_makeRound 1 := ⟨(ga_t4 4 (by decide +kernel) rfl), (ga_t1 7 (by decide +kernel) rfl), ⟨by decide +kernel, by decide +kernel⟩, by decide +kernel, by decide⟩
theorem kX0_makeRound : ga_MV mX0_makeRound := ⟨(ga_t4 3 (by decide +kernel) rfl), (ga_tp 12 (by decide +kernel) rfl)⟩
abbrev mX0_addCodes : ga_M0 := (yX0_addCodes, cX0_addCodes, 10, none, [], none)
theorem fX0_addCodes : ga_MF mX0_addCodes 4 := ⟨(ga_t4 9 (by decide +kernel) rfl), (ga_t1 7 (by decide +kernel) rfl), ⟨by decide +kernel, by decide +kernel⟩, by decide +kernel, by decide⟩
theorem kX0_addCodes : ga_MV mX0_addCodes := ⟨(ga_t4 8 (by decide +kernel) rfl), (ga_tp 13 (by decide +kernel) rfl)⟩
abbrev mX0_countMembers : ga_M0 := (yX0_countMembers, cX0_countMembers, 5, none, [], none)
theorem fX0_countMembers : ga_MF mX0_countMembers 3 := ⟨(ga_t4 16 (by decide +kernel) rfl), (ga_t1 7 (by decide +kernel) rfl), ⟨by decide +kernel, by decide +kernel⟩, by decide +kernel, by decide⟩
theorem kX0_countMembers : ga_MV mX0_countMembers := ⟨(ga_t4 15 (by decide +kernel) rfl), (ga_tp 14 (by decide +kernel) rfl)⟩
abbrev mX1_init : ga_M0 := (yX1_init, cX1_init, 1, none, [], none)
theorem fX1_init : ga_MF mX1_init 0 := ⟨(ga_t1 33 (by decide +kernel) rfl), (ga_t1 2 (by decide +kernel) rfl), ⟨by decide +kernel, by decide +kernel⟩, by decide +kernel, by decide⟩
theorem kX1_init : ga_MI mX1_init := ⟨rfl, (ga_t1 32 (by decide +kernel) rfl), rfl⟩
abbrev mX1_sideOf : ga_M0 := (yX1_sideOf, cX1_sideOf, 2, (some (.object "GraphCompare$Side")), [], none)
theorem fX1_sideOf : ga_MF mX1_sideOf 1 := ⟨(ga_t3 13 (by decide +kernel) rfl), (ga_t1 2 (by decide +kernel) rfl), ⟨by decide +kernel, by decide +kernel⟩, by decide +kernel, by decide⟩
theorem kX1_sideOf : ga_MV mX1_sideOf := ⟨(ga_t3 11 (by decide +kernel) rfl), (ga_t3 12 (by decide +kernel) rfl)⟩
abbrev mX1_markUsedNets : ga_M0 := (yX1_markUsedNets, cX1_markUsedNets, 1, none, [], none)
theorem fX1_markUsedNets : ga_MF mX1_markUsedNets 0 := ⟨(ga_t2 122 (by decide +kernel) rfl), (ga_t1 2 (by decide +kernel) rfl), ⟨by decide +kernel, by decide +kernel⟩, by decide +kernel, by decide⟩
theorem kX1_markUsedNets : ga_MV mX1_markUsedNets := ⟨(ga_t2 120 (by decide +kernel) rfl), (ga_t2 121 (by decide +kernel) rfl)⟩
abbrev mX1_haveAsMuch : ga_M0 := (yX1_haveAsMuch, cX1_haveAsMuch, 1, (some .boolean), [], none)
theorem fX1_haveAsMuch : ga_MF mX1_haveAsMuch 0 := ⟨(ga_t4 25 (by decide +kernel) rfl), (ga_t1 2 (by decide +kernel) rfl), ⟨by decide +kernel, by decide +kernel⟩, by decide +kernel, by decide⟩
theorem kX1_haveAsMuch : ga_MV mX1_haveAsMuch := ⟨(ga_t4 23 (by decide +kernel) rfl), (ga_t4 24 (by decide +kernel) rfl)⟩
abbrev mX1_nextUnevenName : ga_M0 := (yX1_nextUnevenName, cX1_nextUnevenName, 6, (some .int), [], none)
theorem fX1_nextUnevenName : ga_MF mX1_nextUnevenName 1 := ⟨(ga_t4 34 (by decide +kernel) rfl), (ga_t1 2 (by decide +kernel) rfl), ⟨by decide +kernel, by decide +kernel⟩, by decide +kernel, by decide⟩
theorem kX1_nextUnevenName : ga_MV mX1_nextUnevenName := ⟨(ga_t4 32 (by decide +kernel) rfl), (ga_t4 33 (by decide +kernel) rfl)⟩
abbrev mX2_init : ga_M0 := (yX2_init, cX2_init, 1, none, [], none)
theorem fX2_init : ga_MF mX2_init 0 := ⟨(ga_t2 68 (by decide +kernel) rfl), (ga_t1 12 (by decide +kernel) rfl), ⟨by decide +kernel, by decide +kernel⟩, by decide +kernel, by decide⟩
theorem kX2_init : ga_MI mX2_init := ⟨rfl, (ga_t2 67 (by decide +kernel) rfl), rfl⟩
abbrev mX2_forget : ga_M0 := (yX2_forget, cX2_forget, 1, none, [], none)
theorem fX2_forget : ga_MF mX2_forget 0 := ⟨(ga_t3 202 (by decide +kernel) rfl), (ga_t1 12 (by decide +kernel) rfl), ⟨by decide +kernel, by decide +kernel⟩, by decide +kernel, by decide⟩
theorem kX2_forget : ga_MV mX2_forget := ⟨(ga_t3 200 (by decide +kernel) rfl), (ga_t3 201 (by decide +kernel) rfl)⟩
abbrev mX2_list : ga_M0 := (yX2_list, cX2_list, 3, none, [], none)
theorem fX2_list : ga_MF mX2_list 2 := ⟨(ga_t4 112 (by decide +kernel) rfl), (ga_t1 12 (by decide +kernel) rfl), ⟨by decide +kernel, by decide +kernel⟩, by decide +kernel, by decide⟩
theorem kX2_list : ga_MV mX2_list := ⟨(ga_t4 110 (by decide +kernel) rfl), (ga_t4 111 (by decide +kernel) rfl)⟩
abbrev mX2_listKinds : ga_M0 := (yX2_listKinds, cX2_listKinds, 5, none, [], none)
theorem fX2_listKinds : ga_MF mX2_listKinds 1 := ⟨(ga_t4 116 (by decide +kernel) rfl), (ga_t1 12 (by decide +kernel) rfl), ⟨by decide +kernel, by decide +kernel⟩, by decide +kernel, by decide⟩
theorem kX2_listKinds : ga_MV mX2_listKinds := ⟨(ga_t4 115 (by decide +kernel) rfl), (ga_tp 23 (by decide +kernel) rfl)⟩
abbrev mX2_listNets : ga_M0 := (yX2_listNets, cX2_listNets, 4, none, [], none)
theorem fX2_listNets : ga_MF mX2_listNets 1 := ⟨(ga_t4 128 (by decide +kernel) rfl), (ga_t1 12 (by decide +kernel) rfl), ⟨by decide +kernel, by decide +kernel⟩, by decide +kernel, by decide⟩
theorem kX2_listNets : ga_MV mX2_listNets := ⟨(ga_t4 127 (by decide +kernel) rfl), (ga_tp 25 (by decide +kernel) rfl)⟩
abbrev mX2_listNames : ga_M0 := (yX2_listNames, cX2_listNames, 6, none, [], none)
theorem fX2_listNames : ga_MF mX2_listNames 1 := ⟨(ga_t4 133 (by decide +kernel) rfl), (ga_t1 12 (by decide +kernel) rfl), ⟨by decide +kernel, by decide +kernel⟩, by decide +kernel, by decide⟩
theorem kX2_listNames : ga_MV mX2_listNames := ⟨(ga_t4 132 (by decide +kernel) rfl), (ga_tp 26 (by decide +kernel) rfl)⟩
abbrev mX2_listClasses : ga_M0 := (yX2_listClasses, cX2_listClasses, 6, none, [], none)
theorem fX2_listClasses : ga_MF mX2_listClasses 2 := ⟨(ga_t4 139 (by decide +kernel) rfl), (ga_t1 12 (by decide +kernel) rfl), ⟨by decide +kernel, by decide +kernel⟩, by decide +kernel, by decide⟩
theorem kX2_listClasses : ga_MV mX2_listClasses := ⟨(ga_t4 138 (by decide +kernel) rfl), (ga_tp 27 (by decide +kernel) rfl)⟩
abbrev mX2_listClass : ga_M0 := (yX2_listClass, cX2_listClass, 6, none, [], none)
theorem fX2_listClass : ga_MF mX2_listClass 3 := ⟨(ga_t4 145 (by decide +kernel) rfl), (ga_t1 12 (by decide +kernel) rfl), ⟨by decide +kernel, by decide +kernel⟩, by decide +kernel, by decide⟩
theorem kX2_listClass : ga_MV mX2_listClass := ⟨(ga_t4 144 (by decide +kernel) rfl), (ga_tp 28 (by decide +kernel) rfl)⟩
abbrev mX2_add : ga_M0 := (yX2_add, cX2_add, 6, none, [], none)
theorem fX2_add : ga_MF mX2_add 4 := ⟨(ga_t4 124 (by decide +kernel) rfl), (ga_t1 12 (by decide +kernel) rfl), ⟨by decide +kernel, by decide +kernel⟩, by decide +kernel, by decide⟩
theorem kX2_add : ga_MV mX2_add := ⟨(ga_t4 123 (by decide +kernel) rfl), (ga_tp 24 (by decide +kernel) rfl)⟩
abbrev mX3_init : ga_M0 := (yX3_init, cX3_init, 1, none, [], none)
theorem fX3_init : ga_MF mX3_init 0 := ⟨(ga_t1 143 (by decide +kernel) rfl), (ga_t1 6 (by decide +kernel) rfl), ⟨by decide +kernel, by decide +kernel⟩, by decide +kernel, by decide⟩
theorem kX3_init : ga_MI mX3_init := ⟨rfl, (ga_t1 142 (by decide +kernel) rfl), rfl⟩
abbrev mX3_joinAll : ga_M0 := (yX3_joinAll, cX3_joinAll, 5, none, [], none)
theorem fX3_joinAll : ga_MF mX3_joinAll 3 := ⟨(ga_t3 146 (by decide +kernel) rfl), (ga_t1 6 (by decide +kernel) rfl), ⟨by decide +kernel, by decide +kernel⟩, by decide +kernel, by decide⟩
theorem kX3_joinAll : ga_MV mX3_joinAll := ⟨(ga_t3 144 (by decide +kernel) rfl), (ga_t3 145 (by decide +kernel) rfl)⟩
abbrev mX3_joinFirstPair : ga_M0 := (yX3_joinFirstPair, cX3_joinFirstPair, 6, (some .boolean), [], none)
theorem fX3_joinFirstPair : ga_MF mX3_joinFirstPair 3 := ⟨(ga_t3 150 (by decide +kernel) rfl), (ga_t1 6 (by decide +kernel) rfl), ⟨by decide +kernel, by decide +kernel⟩, by decide +kernel, by decide⟩
theorem kX3_joinFirstPair : ga_MV mX3_joinFirstPair := ⟨(ga_t3 149 (by decide +kernel) rfl), (ga_tp 4 (by decide +kernel) rfl)⟩
abbrev mX3_countPins : ga_M0 := (yX3_countPins, cX3_countPins, 5, none, [], none)
theorem fX3_countPins : ga_MF mX3_countPins 1 := ⟨(ga_t3 154 (by decide +kernel) rfl), (ga_t1 6 (by decide +kernel) rfl), ⟨by decide +kernel, by decide +kernel⟩, by decide +kernel, by decide⟩
theorem kX3_countPins : ga_MV mX3_countPins := ⟨(ga_t3 153 (by decide +kernel) rfl), (ga_tp 5 (by decide +kernel) rfl)⟩
abbrev mX3_areOfOneKind : ga_M0 := (yX3_areOfOneKind, cX3_areOfOneKind, 3, (some .boolean), [], none)
theorem fX3_areOfOneKind : ga_MF mX3_areOfOneKind 3 := ⟨(ga_t3 159 (by decide +kernel) rfl), (ga_t1 6 (by decide +kernel) rfl), ⟨by decide +kernel, by decide +kernel⟩, by decide +kernel, by decide⟩
theorem kX3_areOfOneKind : ga_MS mX3_areOfOneKind := (ga_t3 158 (by decide +kernel) rfl)
abbrev mX3_joinPair : ga_M0 := (yX3_joinPair, cX3_joinPair, 6, (some .boolean), [], none)
theorem fX3_joinPair : ga_MF mX3_joinPair 5 := ⟨(ga_t3 163 (by decide +kernel) rfl), (ga_t1 6 (by decide +kernel) rfl), ⟨by decide +kernel, by decide +kernel⟩, by decide +kernel, by decide⟩
theorem kX3_joinPair : ga_MV mX3_joinPair := ⟨(ga_t3 162 (by decide +kernel) rfl), (ga_tp 6 (by decide +kernel) rfl)⟩
abbrev mX3_joinParallel : ga_M0 := (yX3_joinParallel, cX3_joinParallel, 7, (some .boolean), [], none)
theorem fX3_joinParallel : ga_MF mX3_joinParallel 4 := ⟨(ga_t3 166 (by decide +kernel) rfl), (ga_t1 6 (by decide +kernel) rfl), ⟨by decide +kernel, by decide +kernel⟩, by decide +kernel, by decide⟩
theorem kX3_joinParallel : ga_MS mX3_joinParallel := (ga_t3 165 (by decide +kernel) rfl)
abbrev mX3_joinSeries : ga_M0 := (yX3_joinSeries, cX3_joinSeries, 8, (some .boolean), [], none)
theorem fX3_joinSeries : ga_MF mX3_joinSeries 4 := ⟨(ga_t3 172 (by decide +kernel) rfl), (ga_t1 6 (by decide +kernel) rfl), ⟨by decide +kernel, by decide +kernel⟩, by decide +kernel, by decide⟩
theorem kX3_joinSeries : ga_MV mX3_joinSeries := ⟨(ga_t3 171 (by decide +kernel) rfl), (ga_tp 7 (by decide +kernel) rfl)⟩
abbrev mX3_hasTwoEnds : ga_M0 := (yX3_hasTwoEnds, cX3_hasTwoEnds, 4, (some .boolean), [], none)
theorem fX3_hasTwoEnds : ga_MF mX3_hasTwoEnds 3 := ⟨(ga_t3 175 (by decide +kernel) rfl), (ga_t1 6 (by decide +kernel) rfl), ⟨by decide +kernel, by decide +kernel⟩, by decide +kernel, by decide⟩
theorem kX3_hasTwoEnds : ga_MS mX3_hasTwoEnds := (ga_t3 174 (by decide +kernel) rfl)
abbrev mX3_netBetween : ga_M0 := (yX3_netBetween, cX3_netBetween, 8, (some .int), [], none)
theorem fX3_netBetween : ga_MF mX3_netBetween 3 := ⟨(ga_t3 179 (by decide +kernel) rfl), (ga_t1 6 (by decide +kernel) rfl), ⟨by decide +kernel, by decide +kernel⟩, by decide +kernel, by decide⟩
theorem kX3_netBetween : ga_MV mX3_netBetween := ⟨(ga_t3 178 (by decide +kernel) rfl), (ga_tp 8 (by decide +kernel) rfl)⟩
abbrev mX3_sizeInSeries : ga_M0 := (yX3_sizeInSeries, cX3_sizeInSeries, 4, (some .double), [], none)
theorem fX3_sizeInSeries : ga_MF mX3_sizeInSeries 2 := ⟨(ga_t3 184 (by decide +kernel) rfl), (ga_t1 6 (by decide +kernel) rfl), ⟨by decide +kernel, by decide +kernel⟩, by decide +kernel, by decide⟩
theorem kX3_sizeInSeries : ga_MS mX3_sizeInSeries := (ga_t3 183 (by decide +kernel) rfl)
abbrev mX4_init : ga_M0 := (yX4_init, cX4_init, 2, none, [], none)
theorem fX4_init : ga_MF mX4_init 0 := ⟨(ga_t1 107 (by decide +kernel) rfl), (ga_t1 5 (by decide +kernel) rfl), ⟨by decide +kernel, by decide +kernel⟩, by decide +kernel, by decide⟩
theorem kX4_init : ga_MI mX4_init := ⟨rfl, (ga_t1 106 (by decide +kernel) rfl), rfl⟩
abbrev mX4_groupOf : ga_M0 := (yX4_groupOf, cX4_groupOf, 3, (some .int), [], none)
theorem fX4_groupOf : ga_MF mX4_groupOf 2 := ⟨(ga_t2 160 (by decide +kernel) rfl), (ga_t1 5 (by decide +kernel) rfl), ⟨by decide +kernel, by decide +kernel⟩, by decide +kernel, by decide⟩
theorem kX4_groupOf : ga_MV mX4_groupOf := ⟨(ga_t2 158 (by decide +kernel) rfl), (ga_t2 159 (by decide +kernel) rfl)⟩
abbrev mX4_uniteGroups : ga_M0 := (yX4_uniteGroups, cX4_uniteGroups, 8, (some .boolean), [], none)
theorem fX4_uniteGroups : ga_MF mX4_uniteGroups 3 := ⟨(ga_t3 103 (by decide +kernel) rfl), (ga_t1 5 (by decide +kernel) rfl), ⟨by decide +kernel, by decide +kernel⟩, by decide +kernel, by decide⟩
theorem kX4_uniteGroups : ga_MV mX4_uniteGroups := ⟨(ga_t3 101 (by decide +kernel) rfl), (ga_t3 102 (by decide +kernel) rfl)⟩
abbrev mX4_setShare : ga_M0 := (yX4_setShare, cX4_setShare, 5, (some .boolean), [], none)
theorem fX4_setShare : ga_MF mX4_setShare 2 := ⟨(ga_t3 118 (by decide +kernel) rfl), (ga_t1 5 (by decide +kernel) rfl), ⟨by decide +kernel, by decide +kernel⟩, by decide +kernel, by decide⟩
theorem kX4_setShare : ga_MV mX4_setShare := ⟨(ga_t3 116 (by decide +kernel) rfl), (ga_t3 117 (by decide +kernel) rfl)⟩
abbrev mX4_sizesAgree : ga_M0 := (yX4_sizesAgree, cX4_sizesAgree, 10, (some .boolean), [], none)
theorem fX4_sizesAgree : ga_MF mX4_sizesAgree 3 := ⟨(ga_t2 156 (by decide +kernel) rfl), (ga_t1 5 (by decide +kernel) rfl), ⟨by decide +kernel, by decide +kernel⟩, by decide +kernel, by decide⟩
theorem kX4_sizesAgree : ga_MV mX4_sizesAgree := ⟨(ga_t2 154 (by decide +kernel) rfl), (ga_t2 155 (by decide +kernel) rfl)⟩
abbrev mX4_pinsOn : ga_M0 := (yX4_pinsOn, cX4_pinsOn, 7, (some .int), [], none)
theorem fX4_pinsOn : ga_MF mX4_pinsOn 4 := ⟨(ga_t2 165 (by decide +kernel) rfl), (ga_t1 5 (by decide +kernel) rfl), ⟨by decide +kernel, by decide +kernel⟩, by decide +kernel, by decide⟩
theorem kX4_pinsOn : ga_MV mX4_pinsOn := ⟨(ga_t2 163 (by decide +kernel) rfl), (ga_t2 164 (by decide +kernel) rfl)⟩
abbrev mX5_init : ga_M0 := (yX5_init, cX5_init, 1, none, [], none)
theorem fX5_init : ga_MF mX5_init 0 := ⟨(ga_t2 36 (by decide +kernel) rfl), (ga_t1 11 (by decide +kernel) rfl), ⟨by decide +kernel, by decide +kernel⟩, by decide +kernel, by decide⟩
theorem kX5_init : ga_MI mX5_init := ⟨rfl, (ga_t2 35 (by decide +kernel) rfl), rfl⟩
abbrev mX5_forget : ga_M0 := (yX5_forget, cX5_forget, 1, none, [], none)
theorem fX5_forget : ga_MF mX5_forget 0 := ⟨(ga_t2 41 (by decide +kernel) rfl), (ga_t1 11 (by decide +kernel) rfl), ⟨by decide +kernel, by decide +kernel⟩, by decide +kernel, by decide⟩
theorem kX5_forget : ga_MV mX5_forget := ⟨(ga_t2 39 (by decide +kernel) rfl), (ga_t2 40 (by decide +kernel) rfl)⟩
abbrev mX5_pairDevices : ga_M0 := (yX5_pairDevices, cX5_pairDevices, 3, none, [], none)
theorem fX5_pairDevices : ga_MF mX5_pairDevices 2 := ⟨(ga_t4 100 (by decide +kernel) rfl), (ga_t1 11 (by decide +kernel) rfl), ⟨by decide +kernel, by decide +kernel⟩, by decide +kernel, by decide⟩
theorem kX5_pairDevices : ga_MV mX5_pairDevices := ⟨(ga_t4 98 (by decide +kernel) rfl), (ga_t4 99 (by decide +kernel) rfl)⟩
abbrev mX5_pairNets : ga_M0 := (yX5_pairNets, cX5_pairNets, 3, none, [], none)
theorem fX5_pairNets : ga_MF mX5_pairNets 2 := ⟨(ga_t4 108 (by decide +kernel) rfl), (ga_t1 11 (by decide +kernel) rfl), ⟨by decide +kernel, by decide +kernel⟩, by decide +kernel, by decide⟩
theorem kX5_pairNets : ga_MV mX5_pairNets := ⟨(ga_t4 106 (by decide +kernel) rfl), (ga_t4 107 (by decide +kernel) rfl)⟩
abbrev mX5_isMatchNow : ga_M0 := (yX5_isMatchNow, cX5_isMatchNow, 2, (some .boolean), [], none)
theorem fX5_isMatchNow : ga_MF mX5_isMatchNow 1 := ⟨(ga_t2 138 (by decide +kernel) rfl), (ga_t1 11 (by decide +kernel) rfl), ⟨by decide +kernel, by decide +kernel⟩, by decide +kernel, by decide⟩
theorem kX5_isMatchNow : ga_MV mX5_isMatchNow := ⟨(ga_t2 136 (by decide +kernel) rfl), (ga_t2 137 (by decide +kernel) rfl)⟩
abbrev mX5_pairsPresent : ga_M0 := (yX5_pairsPresent, cX5_pairsPresent, 5, (some .boolean), [], none)
theorem fX5_pairsPresent : ga_MF mX5_pairsPresent 3 := ⟨(ga_t2 141 (by decide +kernel) rfl), (ga_t1 11 (by decide +kernel) rfl), ⟨by decide +kernel, by decide +kernel⟩, by decide +kernel, by decide⟩
theorem kX5_pairsPresent : ga_MS mX5_pairsPresent := (ga_t2 140 (by decide +kernel) rfl)
abbrev mX5_pairsUsed : ga_M0 := (yX5_pairsUsed, cX5_pairsUsed, 5, (some .boolean), [], none)
theorem fX5_pairsUsed : ga_MF mX5_pairsUsed 3 := ⟨(ga_t2 144 (by decide +kernel) rfl), (ga_t1 11 (by decide +kernel) rfl), ⟨by decide +kernel, by decide +kernel⟩, by decide +kernel, by decide⟩
theorem kX5_pairsUsed : ga_MS mX5_pairsUsed := (ga_t2 143 (by decide +kernel) rfl)
abbrev mX5_allPairsAgree : ga_M0 := (yX5_allPairsAgree, cX5_allPairsAgree, 3, (some .boolean), [], none)
theorem fX5_allPairsAgree : ga_MF mX5_allPairsAgree 1 := ⟨(ga_t2 148 (by decide +kernel) rfl), (ga_t1 11 (by decide +kernel) rfl), ⟨by decide +kernel, by decide +kernel⟩, by decide +kernel, by decide⟩
theorem kX5_allPairsAgree : ga_MV mX5_allPairsAgree := ⟨(ga_t2 147 (by decide +kernel) rfl), (ga_tp 0 (by decide +kernel) rfl)⟩
abbrev mX5_pairAgrees : ga_M0 := (yX5_pairAgrees, cX5_pairAgrees, 11, (some .boolean), [], none)
theorem fX5_pairAgrees : ga_MF mX5_pairAgrees 2 := ⟨(ga_t2 152 (by decide +kernel) rfl), (ga_t1 11 (by decide +kernel) rfl), ⟨by decide +kernel, by decide +kernel⟩, by decide +kernel, by decide⟩
theorem kX5_pairAgrees : ga_MV mX5_pairAgrees := ⟨(ga_t2 151 (by decide +kernel) rfl), (ga_tp 1 (by decide +kernel) rfl)⟩
abbrev mX6_init : ga_M0 := (yX6_init, cX6_init, 1, none, [], none)
theorem fX6_init : ga_MF mX6_init 0 := ⟨(ga_t1 219 (by decide +kernel) rfl), (ga_t1 10 (by decide +kernel) rfl), ⟨by decide +kernel, by decide +kernel⟩, by decide +kernel, by decide⟩
theorem kX6_init : ga_MI mX6_init := ⟨rfl, (ga_t1 218 (by decide +kernel) rfl), rfl⟩
abbrev mX6_lookAt : ga_M0 := (yX6_lookAt, cX6_lookAt, 7, none, [], none)
theorem fX6_lookAt : ga_MF mX6_lookAt 3 := ⟨(ga_t4 70 (by decide +kernel) rfl), (ga_t1 10 (by decide +kernel) rfl), ⟨by decide +kernel, by decide +kernel⟩, by decide +kernel, by decide⟩
theorem kX6_lookAt : ga_MV mX6_lookAt := ⟨(ga_t4 68 (by decide +kernel) rfl), (ga_t4 69 (by decide +kernel) rfl)⟩
abbrev mX6_placeOf : ga_M0 := (yX6_placeOf, cX6_placeOf, 3, (some .int), [], none)
theorem fX6_placeOf : ga_MF mX6_placeOf 1 := ⟨(ga_t4 76 (by decide +kernel) rfl), (ga_t1 10 (by decide +kernel) rfl), ⟨by decide +kernel, by decide +kernel⟩, by decide +kernel, by decide⟩
theorem kX6_placeOf : ga_MV mX6_placeOf := ⟨(ga_t4 75 (by decide +kernel) rfl), (ga_tp 19 (by decide +kernel) rfl)⟩
abbrev mX6_placeWith : ga_M0 := (yX6_placeWith, cX6_placeWith, 4, (some .int), [], none)
theorem fX6_placeWith : ga_MF mX6_placeWith 2 := ⟨(ga_t4 84 (by decide +kernel) rfl), (ga_t1 10 (by decide +kernel) rfl), ⟨by decide +kernel, by decide +kernel⟩, by decide +kernel, by decide⟩
theorem kX6_placeWith : ga_MV mX6_placeWith := ⟨(ga_t4 82 (by decide +kernel) rfl), (ga_t4 83 (by decide +kernel) rfl)⟩
abbrev mX7_init : ga_M0 := (yX7_init, cX7_init, 3, none, [], none)
theorem fX7_init : ga_MF mX7_init 2 := ⟨(ga_t1 159 (by decide +kernel) rfl), (ga_t1 8 (by decide +kernel) rfl), ⟨by decide +kernel, by decide +kernel⟩, by decide +kernel, by decide⟩
theorem kX7_init : ga_MI mX7_init := ⟨rfl, (ga_t1 158 (by decide +kernel) rfl), rfl⟩
abbrev mX7_empty : ga_M0 := (yX7_empty, cX7_empty, 1, none, [], none)
theorem fX7_empty : ga_MF mX7_empty 0 := ⟨(ga_t3 214 (by decide +kernel) rfl), (ga_t1 8 (by decide +kernel) rfl), ⟨by decide +kernel, by decide +kernel⟩, by decide +kernel, by decide⟩
theorem kX7_empty : ga_MV mX7_empty := ⟨(ga_t3 212 (by decide +kernel) rfl), (ga_t3 213 (by decide +kernel) rfl)⟩
abbrev mX7_forgetCodes : ga_M0 := (yX7_forgetCodes, cX7_forgetCodes, 1, none, [], none)
theorem fX7_forgetCodes : ga_MF mX7_forgetCodes 0 := ⟨(ga_t3 219 (by decide +kernel) rfl), (ga_t1 8 (by decide +kernel) rfl), ⟨by decide +kernel, by decide +kernel⟩, by decide +kernel, by decide⟩
theorem kX7_forgetCodes : ga_MV mX7_forgetCodes := ⟨(ga_t3 217 (by decide +kernel) rfl), (ga_t3 218 (by decide +kernel) rfl)⟩
abbrev mX7_enter : ga_M0 := (yX7_enter, cX7_enter, 3, none, [], none)
theorem fX7_enter : ga_MF mX7_enter 2 := ⟨(ga_t3 224 (by decide +kernel) rfl), (ga_t1 8 (by decide +kernel) rfl), ⟨by decide +kernel, by decide +kernel⟩, by decide +kernel, by decide⟩
theorem kX7_enter : ga_MV mX7_enter := ⟨(ga_t3 222 (by decide +kernel) rfl), (ga_t3 223 (by decide +kernel) rfl)⟩
abbrev mX7_addCode : ga_M0 := (yX7_addCode, cX7_addCode, 5, none, [], none)
theorem fX7_addCode : ga_MF mX7_addCode 2 := ⟨(ga_t3 228 (by decide +kernel) rfl), (ga_t1 8 (by decide +kernel) rfl), ⟨by decide +kernel, by decide +kernel⟩, by decide +kernel, by decide⟩
theorem kX7_addCode : ga_MV mX7_addCode := ⟨(ga_t3 226 (by decide +kernel) rfl), (ga_t3 227 (by decide +kernel) rfl)⟩
abbrev mX7_split : ga_M0 := (yX7_split, cX7_split, 5, (some .boolean), [], none)
theorem fX7_split : ga_MF mX7_split 0 := ⟨(ga_t3 232 (by decide +kernel) rfl), (ga_t1 8 (by decide +kernel) rfl), ⟨by decide +kernel, by decide +kernel⟩, by decide +kernel, by decide⟩
theorem kX7_split : ga_MV mX7_split := ⟨(ga_t3 230 (by decide +kernel) rfl), (ga_t3 231 (by decide +kernel) rfl)⟩
abbrev mX7_partLike : ga_M0 := (yX7_partLike, cX7_partLike, 5, (some .int), [], none)
theorem fX7_partLike : ga_MF mX7_partLike 2 := ⟨(ga_t3 236 (by decide +kernel) rfl), (ga_t1 8 (by decide +kernel) rfl), ⟨by decide +kernel, by decide +kernel⟩, by decide +kernel, by decide⟩
theorem kX7_partLike : ga_MV mX7_partLike := ⟨(ga_t3 235 (by decide +kernel) rfl), (ga_tp 10 (by decide +kernel) rfl)⟩
abbrev mX7_haveSameCodes : ga_M0 := (yX7_haveSameCodes, cX7_haveSameCodes, 4, (some .boolean), [], none)
theorem fX7_haveSameCodes : ga_MF mX7_haveSameCodes 2 := ⟨(ga_t4 0 (by decide +kernel) rfl), (ga_t1 8 (by decide +kernel) rfl), ⟨by decide +kernel, by decide +kernel⟩, by decide +kernel, by decide⟩
theorem kX7_haveSameCodes : ga_MV mX7_haveSameCodes := ⟨(ga_t3 239 (by decide +kernel) rfl), (ga_tp 11 (by decide +kernel) rfl)⟩
abbrev mX8_init : ga_M0 := (yX8_init, cX8_init, 1, none, [], none)
theorem fX8_init : ga_MF mX8_init 0 := ⟨(ga_t1 213 (by decide +kernel) rfl), (ga_t1 9 (by decide +kernel) rfl), ⟨by decide +kernel, by decide +kernel⟩, by decide +kernel, by decide⟩
theorem kX8_init : ga_MI mX8_init := ⟨rfl, (ga_t1 212 (by decide +kernel) rfl), rfl⟩
abbrev mX8_find : ga_M0 := (yX8_find, cX8_find, 8, (some .int), [], none)
theorem fX8_find : ga_MF mX8_find 3 := ⟨(ga_t4 42 (by decide +kernel) rfl), (ga_t1 9 (by decide +kernel) rfl), ⟨by decide +kernel, by decide +kernel⟩, by decide +kernel, by decide⟩
theorem kX8_find : ga_MV mX8_find := ⟨(ga_t4 40 (by decide +kernel) rfl), (ga_t4 41 (by decide +kernel) rfl)⟩
abbrev mX8_keep : ga_M0 := (yX8_keep, cX8_keep, 4, none, [], none)
theorem fX8_keep : ga_MF mX8_keep 2 := ⟨(ga_t4 96 (by decide +kernel) rfl), (ga_t1 9 (by decide +kernel) rfl), ⟨by decide +kernel, by decide +kernel⟩, by decide +kernel, by decide⟩
theorem kX8_keep : ga_MV mX8_keep := ⟨(ga_t4 94 (by decide +kernel) rfl), (ga_t4 95 (by decide +kernel) rfl)⟩
abbrev mX8_keepNet : ga_M0 := (yX8_keepNet, cX8_keepNet, 6, none, [], none)
theorem fX8_keepNet : ga_MF mX8_keepNet 3 := ⟨(ga_t4 104 (by decide +kernel) rfl), (ga_t1 9 (by decide +kernel) rfl), ⟨by decide +kernel, by decide +kernel⟩, by decide +kernel, by decide⟩
theorem kX8_keepNet : ga_MV mX8_keepNet := ⟨(ga_t4 103 (by decide +kernel) rfl), (ga_tp 22 (by decide +kernel) rfl)⟩
abbrev mX8_begin : ga_M0 := (yX8_begin, cX8_begin, 3, none, [], none)
theorem fX8_begin : ga_MF mX8_begin 1 := ⟨(ga_t4 46 (by decide +kernel) rfl), (ga_t1 9 (by decide +kernel) rfl), ⟨by decide +kernel, by decide +kernel⟩, by decide +kernel, by decide⟩
theorem kX8_begin : ga_MV mX8_begin := ⟨(ga_t4 45 (by decide +kernel) rfl), (ga_tp 15 (by decide +kernel) rfl)⟩
abbrev mX8_sortByPorts : ga_M0 := (yX8_sortByPorts, cX8_sortByPorts, 4, none, [], none)
theorem fX8_sortByPorts : ga_MF mX8_sortByPorts 3 := ⟨(ga_t4 50 (by decide +kernel) rfl), (ga_t1 9 (by decide +kernel) rfl), ⟨by decide +kernel, by decide +kernel⟩, by decide +kernel, by decide⟩
theorem kX8_sortByPorts : ga_MS mX8_sortByPorts := (ga_t4 49 (by decide +kernel) rfl)
abbrev mX8_nextCandidate : ga_M0 := (yX8_nextCandidate, cX8_nextCandidate, 7, (some .int), [], none)
theorem fX8_nextCandidate : ga_MF mX8_nextCandidate 3 := ⟨(ga_t4 56 (by decide +kernel) rfl), (ga_t1 9 (by decide +kernel) rfl), ⟨by decide +kernel, by decide +kernel⟩, by decide +kernel, by decide⟩
theorem kX8_nextCandidate : ga_MV mX8_nextCandidate := ⟨(ga_t4 55 (by decide +kernel) rfl), (ga_tp 16 (by decide +kernel) rfl)⟩
abbrev mX8_pairUp : ga_M0 := (yX8_pairUp, cX8_pairUp, 8, (some .boolean), [], none)
theorem fX8_pairUp : ga_MF mX8_pairUp 3 := ⟨(ga_t4 65 (by decide +kernel) rfl), (ga_t1 9 (by decide +kernel) rfl), ⟨by decide +kernel, by decide +kernel⟩, by decide +kernel, by decide⟩
theorem kX8_pairUp : ga_MV mX8_pairUp := ⟨(ga_t4 64 (by decide +kernel) rfl), (ga_tp 18 (by decide +kernel) rfl)⟩
abbrev mX8_findMates : ga_M0 := (yX8_findMates, cX8_findMates, 4, (some .boolean), [], none)
theorem fX8_findMates : ga_MF mX8_findMates 0 := ⟨(ga_t4 80 (by decide +kernel) rfl), (ga_t1 9 (by decide +kernel) rfl), ⟨by decide +kernel, by decide +kernel⟩, by decide +kernel, by decide⟩
theorem kX8_findMates : ga_MV mX8_findMates := ⟨(ga_t4 79 (by decide +kernel) rfl), (ga_tp 20 (by decide +kernel) rfl)⟩
abbrev mX8_changeSorts : ga_M0 := (yX8_changeSorts, cX8_changeSorts, 8, none, [], none)
theorem fX8_changeSorts : ga_MF mX8_changeSorts 1 := ⟨(ga_t4 88 (by decide +kernel) rfl), (ga_t1 9 (by decide +kernel) rfl), ⟨by decide +kernel, by decide +kernel⟩, by decide +kernel, by decide⟩
theorem kX8_changeSorts : ga_MV mX8_changeSorts := ⟨(ga_t4 87 (by decide +kernel) rfl), (ga_tp 21 (by decide +kernel) rfl)⟩
abbrev mX8_undo : ga_M0 := (yX8_undo, cX8_undo, 4, none, [], none)
theorem fX8_undo : ga_MF mX8_undo 1 := ⟨(ga_t4 61 (by decide +kernel) rfl), (ga_t1 9 (by decide +kernel) rfl), ⟨by decide +kernel, by decide +kernel⟩, by decide +kernel, by decide⟩
theorem kX8_undo : ga_MV mX8_undo := ⟨(ga_t4 60 (by decide +kernel) rfl), (ga_tp 17 (by decide +kernel) rfl)⟩
abbrev mX9_init : ga_M0 := (yX9_init, cX9_init, 1, none, [], none)
theorem fX9_init : ga_MF mX9_init 0 := ⟨(ga_t1 39 (by decide +kernel) rfl), (ga_t1 3 (by decide +kernel) rfl), ⟨by decide +kernel, by decide +kernel⟩, by decide +kernel, by decide⟩
theorem kX9_init : ga_MI mX9_init := ⟨rfl, (ga_t1 38 (by decide +kernel) rfl), rfl⟩
abbrev mX9_addNet : ga_M0 := (yX9_addNet, cX9_addNet, 1, (some .int), [], none)
theorem fX9_addNet : ga_MF mX9_addNet 0 := ⟨(ga_t3 49 (by decide +kernel) rfl), (ga_t1 3 (by decide +kernel) rfl), ⟨by decide +kernel, by decide +kernel⟩, by decide +kernel, by decide⟩
theorem kX9_addNet : ga_MV mX9_addNet := ⟨(ga_t3 47 (by decide +kernel) rfl), (ga_t3 48 (by decide +kernel) rfl)⟩
abbrev mX9_addDevice : ga_M0 := (yX9_addDevice, cX9_addDevice, 4, (some .int), [], none)
theorem fX9_addDevice : ga_MF mX9_addDevice 2 := ⟨(ga_t3 67 (by decide +kernel) rfl), (ga_t1 3 (by decide +kernel) rfl), ⟨by decide +kernel, by decide +kernel⟩, by decide +kernel, by decide⟩
theorem kX9_addDevice : ga_MV mX9_addDevice := ⟨(ga_t3 65 (by decide +kernel) rfl), (ga_t3 66 (by decide +kernel) rfl)⟩
abbrev mX9_isNet : ga_M0 := (yX9_isNet, cX9_isNet, 2, (some .boolean), [], none)
theorem fX9_isNet : ga_MF mX9_isNet 1 := ⟨(ga_t3 87 (by decide +kernel) rfl), (ga_t1 3 (by decide +kernel) rfl), ⟨by decide +kernel, by decide +kernel⟩, by decide +kernel, by decide⟩
theorem kX9_isNet : ga_MV mX9_isNet := ⟨(ga_t3 85 (by decide +kernel) rfl), (ga_t3 86 (by decide +kernel) rfl)⟩
abbrev mX9_isDevice : ga_M0 := (yX9_isDevice, cX9_isDevice, 2, (some .boolean), [], none)
theorem fX9_isDevice : ga_MF mX9_isDevice 1 := ⟨(ga_t3 78 (by decide +kernel) rfl), (ga_t1 3 (by decide +kernel) rfl), ⟨by decide +kernel, by decide +kernel⟩, by decide +kernel, by decide⟩
theorem kX9_isDevice : ga_MV mX9_isDevice := ⟨(ga_t3 76 (by decide +kernel) rfl), (ga_t3 77 (by decide +kernel) rfl)⟩
abbrev mX9_netOf : ga_M0 := (yX9_netOf, cX9_netOf, 3, (some .int), [], none)
theorem fX9_netOf : ga_MF mX9_netOf 2 := ⟨(ga_t2 134 (by decide +kernel) rfl), (ga_t1 3 (by decide +kernel) rfl), ⟨by decide +kernel, by decide +kernel⟩, by decide +kernel, by decide⟩
theorem kX9_netOf : ga_MV mX9_netOf := ⟨(ga_t2 132 (by decide +kernel) rfl), (ga_t2 133 (by decide +kernel) rfl)⟩
abbrev mX9_connect : ga_M0 := (yX9_connect, cX9_connect, 5, (some .boolean), [], none)
theorem fX9_connect : ga_MF mX9_connect 3 := ⟨(ga_t3 92 (by decide +kernel) rfl), (ga_t1 3 (by decide +kernel) rfl), ⟨by decide +kernel, by decide +kernel⟩, by decide +kernel, by decide⟩
theorem kX9_connect : ga_MV mX9_connect := ⟨(ga_t3 90 (by decide +kernel) rfl), (ga_t3 91 (by decide +kernel) rfl)⟩
abbrev mX9_isPort : ga_M0 := (yX9_isPort, cX9_isPort, 2, (some .boolean), [], none)
theorem fX9_isPort : ga_MF mX9_isPort 1 := ⟨(ga_t2 130 (by decide +kernel) rfl), (ga_t1 3 (by decide +kernel) rfl), ⟨by decide +kernel, by decide +kernel⟩, by decide +kernel, by decide⟩
theorem kX9_isPort : ga_MV mX9_isPort := ⟨(ga_t2 128 (by decide +kernel) rfl), (ga_t2 129 (by decide +kernel) rfl)⟩
abbrev mX9_makePort : ga_M0 := (yX9_makePort, cX9_makePort, 4, (some .boolean), [], none)
theorem fX9_makePort : ga_MF mX9_makePort 2 := ⟨(ga_t3 134 (by decide +kernel) rfl), (ga_t1 3 (by decide +kernel) rfl), ⟨by decide +kernel, by decide +kernel⟩, by decide +kernel, by decide⟩
theorem kX9_makePort : ga_MV mX9_makePort := ⟨(ga_t3 132 (by decide +kernel) rfl), (ga_t3 133 (by decide +kernel) rfl)⟩
abbrev mX9_portNamed : ga_M0 := (yX9_portNamed, cX9_portNamed, 3, (some .int), [], none)
theorem fX9_portNamed : ga_MF mX9_portNamed 1 := ⟨(ga_t3 129 (by decide +kernel) rfl), (ga_t1 3 (by decide +kernel) rfl), ⟨by decide +kernel, by decide +kernel⟩, by decide +kernel, by decide⟩
theorem kX9_portNamed : ga_MV mX9_portNamed := ⟨(ga_t3 127 (by decide +kernel) rfl), (ga_t3 128 (by decide +kernel) rfl)⟩
abbrev mX9_presentCount : ga_M0 := (yX9_presentCount, cX9_presentCount, 3, (some .int), [], none)
theorem fX9_presentCount : ga_MF mX9_presentCount 0 := ⟨(ga_t3 188 (by decide +kernel) rfl), (ga_t1 3 (by decide +kernel) rfl), ⟨by decide +kernel, by decide +kernel⟩, by decide +kernel, by decide⟩
theorem kX9_presentCount : ga_MV mX9_presentCount := ⟨(ga_t3 186 (by decide +kernel) rfl), (ga_t3 187 (by decide +kernel) rfl)⟩
abbrev mX9_presentOfKind : ga_M0 := (yX9_presentOfKind, cX9_presentOfKind, 4, (some .int), [], none)
theorem fX9_presentOfKind : ga_MF mX9_presentOfKind 1 := ⟨(ga_t4 120 (by decide +kernel) rfl), (ga_t1 3 (by decide +kernel) rfl), ⟨by decide +kernel, by decide +kernel⟩, by decide +kernel, by decide⟩
theorem kX9_presentOfKind : ga_MV mX9_presentOfKind := ⟨(ga_t4 118 (by decide +kernel) rfl), (ga_t4 119 (by decide +kernel) rfl)⟩
abbrev mX9_markUsedNets : ga_M0 := (yX9_markUsedNets, cX9_markUsedNets, 4, none, [], none)
theorem fX9_markUsedNets : ga_MF mX9_markUsedNets 0 := ⟨(ga_t2 126 (by decide +kernel) rfl), (ga_t1 3 (by decide +kernel) rfl), ⟨by decide +kernel, by decide +kernel⟩, by decide +kernel, by decide⟩
theorem kX9_markUsedNets : ga_MV mX9_markUsedNets := ⟨(ga_t2 124 (by decide +kernel) rfl), (ga_t2 125 (by decide +kernel) rfl)⟩
abbrev mX9_usedCount : ga_M0 := (yX9_usedCount, cX9_usedCount, 3, (some .int), [], none)
theorem fX9_usedCount : ga_MF mX9_usedCount 0 := ⟨(ga_t4 30 (by decide +kernel) rfl), (ga_t1 3 (by decide +kernel) rfl), ⟨by decide +kernel, by decide +kernel⟩, by decide +kernel, by decide⟩
theorem kX9_usedCount : ga_MV mX9_usedCount := ⟨(ga_t4 28 (by decide +kernel) rfl), (ga_t4 29 (by decide +kernel) rfl)⟩
abbrev mX9_nextPortName : ga_M0 := (yX9_nextPortName, cX9_nextPortName, 5, (some .int), [], none)
theorem fX9_nextPortName : ga_MF mX9_nextPortName 1 := ⟨(ga_t4 38 (by decide +kernel) rfl), (ga_t1 3 (by decide +kernel) rfl), ⟨by decide +kernel, by decide +kernel⟩, by decide +kernel, by decide⟩
theorem kX9_nextPortName : ga_MV mX9_nextPortName := ⟨(ga_t4 36 (by decide +kernel) rfl), (ga_t4 37 (by decide +kernel) rfl)⟩
abbrev mX10_init : ga_M0 := (yX10_init, cX10_init, 1, none, [], none)
theorem fX10_init : ga_MF mX10_init 0 := ⟨(ga_t1 25 (by decide +kernel) rfl), (ga_t1 1 (by decide +kernel) rfl), ⟨by decide +kernel, by decide +kernel⟩, by decide +kernel, by decide⟩
theorem kX10_init : ga_MI mX10_init := ⟨rfl, (ga_t1 24 (by decide +kernel) rfl), rfl⟩
abbrev mX10_net : ga_M0 := (yX10_net, cX10_net, 4, (some .int), [], none)
theorem fX10_net : ga_MF mX10_net 2 := ⟨(ga_t2 177 (by decide +kernel) rfl), (ga_t1 1 (by decide +kernel) rfl), ⟨by decide +kernel, by decide +kernel⟩, by decide +kernel, by decide⟩
theorem kX10_net : ga_MV mX10_net := ⟨(ga_t2 175 (by decide +kernel) rfl), (ga_t2 176 (by decide +kernel) rfl)⟩
abbrev mX10_device : ga_M0 := (yX10_device, cX10_device, 6, (some .int), [], none)
theorem fX10_device : ga_MF mX10_device 3 := ⟨(ga_t3 56 (by decide +kernel) rfl), (ga_t1 1 (by decide +kernel) rfl), ⟨by decide +kernel, by decide +kernel⟩, by decide +kernel, by decide⟩
theorem kX10_device : ga_MV mX10_device := ⟨(ga_t3 54 (by decide +kernel) rfl), (ga_t3 55 (by decide +kernel) rfl)⟩
abbrev mX10_pin : ga_M0 := (yX10_pin, cX10_pin, 6, (some .boolean), [], none)
theorem fX10_pin : ga_MF mX10_pin 4 := ⟨(ga_t3 74 (by decide +kernel) rfl), (ga_t1 1 (by decide +kernel) rfl), ⟨by decide +kernel, by decide +kernel⟩, by decide +kernel, by decide⟩
theorem kX10_pin : ga_MV mX10_pin := ⟨(ga_t3 72 (by decide +kernel) rfl), (ga_t3 73 (by decide +kernel) rfl)⟩
abbrev mX10_swap : ga_M0 := (yX10_swap, cX10_swap, 4, (some .boolean), [], none)
theorem fX10_swap : ga_MF mX10_swap 3 := ⟨(ga_t3 99 (by decide +kernel) rfl), (ga_t1 1 (by decide +kernel) rfl), ⟨by decide +kernel, by decide +kernel⟩, by decide +kernel, by decide⟩
theorem kX10_swap : ga_MV mX10_swap := ⟨(ga_t3 97 (by decide +kernel) rfl), (ga_t3 98 (by decide +kernel) rfl)⟩
abbrev mX10_share : ga_M0 := (yX10_share, cX10_share, 4, (some .boolean), [], none)
theorem fX10_share : ga_MF mX10_share 2 := ⟨(ga_t3 113 (by decide +kernel) rfl), (ga_t1 1 (by decide +kernel) rfl), ⟨by decide +kernel, by decide +kernel⟩, by decide +kernel, by decide⟩
theorem kX10_share : ga_MV mX10_share := ⟨(ga_t3 111 (by decide +kernel) rfl), (ga_t3 112 (by decide +kernel) rfl)⟩
abbrev mX10_port : ga_M0 := (yX10_port, cX10_port, 6, (some .boolean), [], none)
theorem fX10_port : ga_MF mX10_port 3 := ⟨(ga_t3 125 (by decide +kernel) rfl), (ga_t1 1 (by decide +kernel) rfl), ⟨by decide +kernel, by decide +kernel⟩, by decide +kernel, by decide⟩
theorem kX10_port : ga_MV mX10_port := ⟨(ga_t3 123 (by decide +kernel) rfl), (ga_t3 124 (by decide +kernel) rfl)⟩
abbrev mX10_join : ga_M0 := (yX10_join, cX10_join, 4, (some .int), [], none)
theorem fX10_join : ga_MF mX10_join 2 := ⟨(ga_t3 141 (by decide +kernel) rfl), (ga_t1 1 (by decide +kernel) rfl), ⟨by decide +kernel, by decide +kernel⟩, by decide +kernel, by decide⟩
theorem kX10_join : ga_MV mX10_join := ⟨(ga_t3 139 (by decide +kernel) rfl), (ga_t3 140 (by decide +kernel) rfl)⟩
abbrev mX10_run : ga_M0 := (yX10_run, cX10_run, 4, (some .int), [], none)
theorem fX10_run : ga_MF mX10_run 1 := ⟨(ga_t3 195 (by decide +kernel) rfl), (ga_t1 1 (by decide +kernel) rfl), ⟨by decide +kernel, by decide +kernel⟩, by decide +kernel, by decide⟩
theorem kX10_run : ga_MV mX10_run := ⟨(ga_t3 193 (by decide +kernel) rfl), (ga_t3 194 (by decide +kernel) rfl)⟩
abbrev mX10_match : ga_M0 := (yX10_match, cX10_match, 4, (some .int), [], none)
theorem fX10_match : ga_MF mX10_match 2 := ⟨(ga_t4 152 (by decide +kernel) rfl), (ga_t1 1 (by decide +kernel) rfl), ⟨by decide +kernel, by decide +kernel⟩, by decide +kernel, by decide⟩
theorem kX10_match : ga_MV mX10_match := ⟨(ga_t4 150 (by decide +kernel) rfl), (ga_t4 151 (by decide +kernel) rfl)⟩
abbrev mX10_netMatch : ga_M0 := (yX10_netMatch, cX10_netMatch, 2, (some .int), [], none)
theorem fX10_netMatch : ga_MF mX10_netMatch 1 := ⟨(ga_t4 159 (by decide +kernel) rfl), (ga_t1 1 (by decide +kernel) rfl), ⟨by decide +kernel, by decide +kernel⟩, by decide +kernel, by decide⟩
theorem kX10_netMatch : ga_MV mX10_netMatch := ⟨(ga_t4 157 (by decide +kernel) rfl), (ga_t4 158 (by decide +kernel) rfl)⟩
abbrev mX10_differs : ga_M0 := (yX10_differs, cX10_differs, 3, (some .int), [], none)
theorem fX10_differs : ga_MF mX10_differs 2 := ⟨(ga_t4 166 (by decide +kernel) rfl), (ga_t1 1 (by decide +kernel) rfl), ⟨by decide +kernel, by decide +kernel⟩, by decide +kernel, by decide⟩
theorem kX10_differs : ga_MV mX10_differs := ⟨(ga_t4 164 (by decide +kernel) rfl), (ga_t4 165 (by decide +kernel) rfl)⟩
abbrev mX10_rounds : ga_M0 := (yX10_rounds, cX10_rounds, 1, (some .int), [], none)
theorem fX10_rounds : ga_MF mX10_rounds 0 := ⟨(ga_t2 110 (by decide +kernel) rfl), (ga_t1 1 (by decide +kernel) rfl), ⟨by decide +kernel, by decide +kernel⟩, by decide +kernel, by decide⟩
theorem kX10_rounds : ga_MV mX10_rounds := ⟨(ga_t2 108 (by decide +kernel) rfl), (ga_t2 109 (by decide +kernel) rfl)⟩
abbrev mX10_tried : ga_M0 := (yX10_tried, cX10_tried, 1, (some .int), [], none)
theorem fX10_tried : ga_MF mX10_tried 0 := ⟨(ga_t2 114 (by decide +kernel) rfl), (ga_t1 1 (by decide +kernel) rfl), ⟨by decide +kernel, by decide +kernel⟩, by decide +kernel, by decide⟩
theorem kX10_tried : ga_MV mX10_tried := ⟨(ga_t2 112 (by decide +kernel) rfl), (ga_t2 113 (by decide +kernel) rfl)⟩
abbrev mX10_tested : ga_M0 := (yX10_tested, cX10_tested, 1, (some .boolean), [], none)
theorem fX10_tested : ga_MF mX10_tested 0 := ⟨(ga_t2 118 (by decide +kernel) rfl), (ga_t1 1 (by decide +kernel) rfl), ⟨by decide +kernel, by decide +kernel⟩, by decide +kernel, by decide⟩
theorem kX10_tested : ga_MV mX10_tested := ⟨(ga_t2 116 (by decide +kernel) rfl), (ga_t2 117 (by decide +kernel) rfl)⟩
abbrev mX10_sideAt : ga_M0 := (yX10_sideAt, cX10_sideAt, 2, (some (.object "GraphCompare$Side")), [], none)
theorem fX10_sideAt : ga_MF mX10_sideAt 1 := ⟨(ga_t2 181 (by decide +kernel) rfl), (ga_t1 1 (by decide +kernel) rfl), ⟨by decide +kernel, by decide +kernel⟩, by decide +kernel, by decide⟩
theorem kX10_sideAt : ga_MV mX10_sideAt := ⟨(ga_t2 180 (by decide +kernel) rfl), (ga_tp 2 (by decide +kernel) rfl)⟩
abbrev mX10_isKind : ga_M0 := (yX10_isKind, cX10_isKind, 1, (some .boolean), [], none)
theorem fX10_isKind : ga_MF mX10_isKind 1 := ⟨(ga_t3 59 (by decide +kernel) rfl), (ga_t1 1 (by decide +kernel) rfl), ⟨by decide +kernel, by decide +kernel⟩, by decide +kernel, by decide⟩
theorem kX10_isKind : ga_MS mX10_isKind := (ga_t3 58 (by decide +kernel) rfl)
abbrev mX10_isPin : ga_M0 := (yX10_isPin, cX10_isPin, 1, (some .boolean), [], none)
theorem fX10_isPin : ga_MF mX10_isPin 1 := ⟨(ga_t3 82 (by decide +kernel) rfl), (ga_t1 1 (by decide +kernel) rfl), ⟨by decide +kernel, by decide +kernel⟩, by decide +kernel, by decide⟩
theorem kX10_isPin : ga_MS mX10_isPin := (ga_t3 81 (by decide +kernel) rfl)
abbrev mX11_init : ga_M0 := (yX11_init, cX11_init, 2, none, [], none)
theorem fX11_init : ga_MF mX11_init 0 := ⟨(ga_t4 173 (by decide +kernel) rfl), (ga_t1 13 (by decide +kernel) rfl), ⟨by decide +kernel, by decide +kernel⟩, by decide +kernel, by decide⟩
theorem kX11_init : ga_MI mX11_init := ⟨rfl, (ga_t4 172 (by decide +kernel) rfl), rfl⟩
abbrev mX11_thrown : ga_M0 := (yX11_thrown, cX11_thrown, 1, (some .int), [], none)
theorem fX11_thrown : ga_MF mX11_thrown 0 := ⟨(ga_t5 35 (by decide +kernel) rfl), (ga_t1 13 (by decide +kernel) rfl), ⟨by decide +kernel, by decide +kernel⟩, by decide +kernel, by decide⟩
theorem kX11_thrown : ga_MV mX11_thrown := ⟨(ga_t5 33 (by decide +kernel) rfl), (ga_t5 34 (by decide +kernel) rfl)⟩
abbrev mX11_isSide : ga_M0 := (yX11_isSide, cX11_isSide, 1, (some .boolean), [], none)
theorem fX11_isSide : ga_MF mX11_isSide 1 := ⟨(ga_t5 42 (by decide +kernel) rfl), (ga_t1 13 (by decide +kernel) rfl), ⟨by decide +kernel, by decide +kernel⟩, by decide +kernel, by decide⟩
theorem kX11_isSide : ga_MS mX11_isSide := (ga_t5 41 (by decide +kernel) rfl)
abbrev mX11_isNet : ga_M0 := (yX11_isNet, cX11_isNet, 3, (some .boolean), [], none)
theorem fX11_isNet : ga_MF mX11_isNet 2 := ⟨(ga_t5 65 (by decide +kernel) rfl), (ga_t1 13 (by decide +kernel) rfl), ⟨by decide +kernel, by decide +kernel⟩, by decide +kernel, by decide⟩
theorem kX11_isNet : ga_MV mX11_isNet := ⟨(ga_t5 64 (by decide +kernel) rfl), (ga_tp 30 (by decide +kernel) rfl)⟩
abbrev mX11_isDevice : ga_M0 := (yX11_isDevice, cX11_isDevice, 3, (some .boolean), [], none)
theorem fX11_isDevice : ga_MF mX11_isDevice 2 := ⟨(ga_t5 58 (by decide +kernel) rfl), (ga_t1 13 (by decide +kernel) rfl), ⟨by decide +kernel, by decide +kernel⟩, by decide +kernel, by decide⟩
theorem kX11_isDevice : ga_MV mX11_isDevice := ⟨(ga_t5 57 (by decide +kernel) rfl), (ga_tp 29 (by decide +kernel) rfl)⟩
abbrev mX11_isKind : ga_M0 := (yX11_isKind, cX11_isKind, 1, (some .boolean), [], none)
theorem fX11_isKind : ga_MF mX11_isKind 1 := ⟨(ga_t5 49 (by decide +kernel) rfl), (ga_t1 13 (by decide +kernel) rfl), ⟨by decide +kernel, by decide +kernel⟩, by decide +kernel, by decide⟩
theorem kX11_isKind : ga_MS mX11_isKind := (ga_t5 48 (by decide +kernel) rfl)
abbrev mX11_isPin : ga_M0 := (yX11_isPin, cX11_isPin, 1, (some .boolean), [], none)
theorem fX11_isPin : ga_MF mX11_isPin 1 := ⟨(ga_t5 61 (by decide +kernel) rfl), (ga_t1 13 (by decide +kernel) rfl), ⟨by decide +kernel, by decide +kernel⟩, by decide +kernel, by decide⟩
theorem kX11_isPin : ga_MS mX11_isPin := (ga_t5 60 (by decide +kernel) rfl)
abbrev mX11_net : ga_M0 := (yX11_net, cX11_net, 3, (some .int), [], none)
theorem fX11_net : ga_MF mX11_net 2 := ⟨(ga_t5 39 (by decide +kernel) rfl), (ga_t1 13 (by decide +kernel) rfl), ⟨by decide +kernel, by decide +kernel⟩, by decide +kernel, by decide⟩
theorem kX11_net : ga_MV mX11_net := ⟨(ga_t5 37 (by decide +kernel) rfl), (ga_t5 38 (by decide +kernel) rfl)⟩
abbrev mX11_device : ga_M0 := (yX11_device, cX11_device, 7, (some .int), [], none)
theorem fX11_device : ga_MF mX11_device 3 := ⟨(ga_t5 46 (by decide +kernel) rfl), (ga_t1 13 (by decide +kernel) rfl), ⟨by decide +kernel, by decide +kernel⟩, by decide +kernel, by decide⟩
theorem kX11_device : ga_MV mX11_device := ⟨(ga_t5 44 (by decide +kernel) rfl), (ga_t5 45 (by decide +kernel) rfl)⟩
abbrev mX11_pin : ga_M0 := (yX11_pin, cX11_pin, 7, (some .boolean), [], none)
theorem fX11_pin : ga_MF mX11_pin 4 := ⟨(ga_t5 54 (by decide +kernel) rfl), (ga_t1 13 (by decide +kernel) rfl), ⟨by decide +kernel, by decide +kernel⟩, by decide +kernel, by decide⟩
theorem kX11_pin : ga_MV mX11_pin := ⟨(ga_t5 52 (by decide +kernel) rfl), (ga_t5 53 (by decide +kernel) rfl)⟩
abbrev mX11_swap : ga_M0 := (yX11_swap, cX11_swap, 7, (some .boolean), [], none)
theorem fX11_swap : ga_MF mX11_swap 3 := ⟨(ga_t5 69 (by decide +kernel) rfl), (ga_t1 13 (by decide +kernel) rfl), ⟨by decide +kernel, by decide +kernel⟩, by decide +kernel, by decide⟩
theorem kX11_swap : ga_MV mX11_swap := ⟨(ga_t5 67 (by decide +kernel) rfl), (ga_t5 68 (by decide +kernel) rfl)⟩
abbrev mX11_share : ga_M0 := (yX11_share, cX11_share, 4, (some .boolean), [], none)
theorem fX11_share : ga_MF mX11_share 2 := ⟨(ga_t5 73 (by decide +kernel) rfl), (ga_t1 13 (by decide +kernel) rfl), ⟨by decide +kernel, by decide +kernel⟩, by decide +kernel, by decide⟩
theorem kX11_share : ga_MV mX11_share := ⟨(ga_t5 71 (by decide +kernel) rfl), (ga_t5 72 (by decide +kernel) rfl)⟩
abbrev mX11_port : ga_M0 := (yX11_port, cX11_port, 5, (some .boolean), [], none)
theorem fX11_port : ga_MF mX11_port 3 := ⟨(ga_t5 77 (by decide +kernel) rfl), (ga_t1 13 (by decide +kernel) rfl), ⟨by decide +kernel, by decide +kernel⟩, by decide +kernel, by decide⟩
theorem kX11_port : ga_MV mX11_port := ⟨(ga_t5 75 (by decide +kernel) rfl), (ga_t5 76 (by decide +kernel) rfl)⟩
abbrev mX11_group : ga_M0 := (yX11_group, cX11_group, 3, (some .int), [], none)
theorem fX11_group : ga_MF mX11_group 2 := ⟨(ga_t5 93 (by decide +kernel) rfl), (ga_t1 13 (by decide +kernel) rfl), ⟨by decide +kernel, by decide +kernel⟩, by decide +kernel, by decide⟩
theorem kX11_group : ga_MV mX11_group := ⟨(ga_t5 92 (by decide +kernel) rfl), (ga_tp 33 (by decide +kernel) rfl)⟩
abbrev mX11_pinsOn : ga_M0 := (yX11_pinsOn, cX11_pinsOn, 6, (some .int), [], none)
theorem fX11_pinsOn : ga_MF mX11_pinsOn 3 := ⟨(ga_t5 97 (by decide +kernel) rfl), (ga_t1 13 (by decide +kernel) rfl), ⟨by decide +kernel, by decide +kernel⟩, by decide +kernel, by decide⟩
theorem kX11_pinsOn : ga_MV mX11_pinsOn := ⟨(ga_t5 96 (by decide +kernel) rfl), (ga_tp 34 (by decide +kernel) rfl)⟩
abbrev mX11_isParallel : ga_M0 := (yX11_isParallel, cX11_isParallel, 7, (some .boolean), [], none)
theorem fX11_isParallel : ga_MF mX11_isParallel 2 := ⟨(ga_t5 89 (by decide +kernel) rfl), (ga_t1 13 (by decide +kernel) rfl), ⟨by decide +kernel, by decide +kernel⟩, by decide +kernel, by decide⟩
theorem kX11_isParallel : ga_MV mX11_isParallel := ⟨(ga_t5 88 (by decide +kernel) rfl), (ga_tp 32 (by decide +kernel) rfl)⟩
abbrev mX11_all : ga_M0 := (yX11_all, cX11_all, 6, (some .int), [], none)
theorem fX11_all : ga_MF mX11_all 2 := ⟨(ga_t5 109 (by decide +kernel) rfl), (ga_t1 13 (by decide +kernel) rfl), ⟨by decide +kernel, by decide +kernel⟩, by decide +kernel, by decide⟩
theorem kX11_all : ga_MV mX11_all := ⟨(ga_t5 108 (by decide +kernel) rfl), (ga_tp 37 (by decide +kernel) rfl)⟩
abbrev mX11_isChain : ga_M0 := (yX11_isChain, cX11_isChain, 3, (some .boolean), [], none)
theorem fX11_isChain : ga_MF mX11_isChain 1 := ⟨(ga_t5 105 (by decide +kernel) rfl), (ga_t1 13 (by decide +kernel) rfl), ⟨by decide +kernel, by decide +kernel⟩, by decide +kernel, by decide⟩
theorem kX11_isChain : ga_MV mX11_isChain := ⟨(ga_t5 104 (by decide +kernel) rfl), (ga_tp 36 (by decide +kernel) rfl)⟩
abbrev mX11_common : ga_M0 := (yX11_common, cX11_common, 7, (some .int), [], none)
theorem fX11_common : ga_MF mX11_common 3 := ⟨(ga_t5 101 (by decide +kernel) rfl), (ga_t1 13 (by decide +kernel) rfl), ⟨by decide +kernel, by decide +kernel⟩, by decide +kernel, by decide⟩
theorem kX11_common : ga_MV mX11_common := ⟨(ga_t5 100 (by decide +kernel) rfl), (ga_tp 35 (by decide +kernel) rfl)⟩
abbrev mX11_isJoined : ga_M0 := (yX11_isJoined, cX11_isJoined, 10, (some .boolean), [], none)
theorem fX11_isJoined : ga_MF mX11_isJoined 2 := ⟨(ga_t5 85 (by decide +kernel) rfl), (ga_t1 13 (by decide +kernel) rfl), ⟨by decide +kernel, by decide +kernel⟩, by decide +kernel, by decide⟩
theorem kX11_isJoined : ga_MV mX11_isJoined := ⟨(ga_t5 84 (by decide +kernel) rfl), (ga_tp 31 (by decide +kernel) rfl)⟩
abbrev mX11_live : ga_M0 := (yX11_live, cX11_live, 4, (some .int), [], none)
theorem fX11_live : ga_MF mX11_live 1 := ⟨(ga_t5 113 (by decide +kernel) rfl), (ga_t1 13 (by decide +kernel) rfl), ⟨by decide +kernel, by decide +kernel⟩, by decide +kernel, by decide⟩
theorem kX11_live : ga_MV mX11_live := ⟨(ga_t5 112 (by decide +kernel) rfl), (ga_tp 38 (by decide +kernel) rfl)⟩
abbrev mX11_join : ga_M0 := (yX11_join, cX11_join, 3, (some .int), [], none)
theorem fX11_join : ga_MF mX11_join 2 := ⟨(ga_t5 81 (by decide +kernel) rfl), (ga_t1 13 (by decide +kernel) rfl), ⟨by decide +kernel, by decide +kernel⟩, by decide +kernel, by decide⟩
theorem kX11_join : ga_MV mX11_join := ⟨(ga_t5 79 (by decide +kernel) rfl), (ga_t5 80 (by decide +kernel) rfl)⟩
abbrev mX11_isUsed : ga_M0 := (yX11_isUsed, cX11_isUsed, 3, (some .boolean), [], none)
theorem fX11_isUsed : ga_MF mX11_isUsed 2 := ⟨(ga_t5 138 (by decide +kernel) rfl), (ga_t1 13 (by decide +kernel) rfl), ⟨by decide +kernel, by decide +kernel⟩, by decide +kernel, by decide⟩
theorem kX11_isUsed : ga_MV mX11_isUsed := ⟨(ga_t5 137 (by decide +kernel) rfl), (ga_tp 43 (by decide +kernel) rfl)⟩
abbrev mX11_pinsOnClass : ga_M0 := (yX11_pinsOnClass, cX11_pinsOnClass, 8, (some .int), [], none)
theorem fX11_pinsOnClass : ga_MF mX11_pinsOnClass 3 := ⟨(ga_t5 154 (by decide +kernel) rfl), (ga_t1 13 (by decide +kernel) rfl), ⟨by decide +kernel, by decide +kernel⟩, by decide +kernel, by decide⟩
theorem kX11_pinsOnClass : ga_MV mX11_pinsOnClass := ⟨(ga_t5 153 (by decide +kernel) rfl), (ga_tp 47 (by decide +kernel) rfl)⟩
abbrev mX11_isLikeDevice : ga_M0 := (yX11_isLikeDevice, cX11_isLikeDevice, 8, (some .boolean), [], none)
theorem fX11_isLikeDevice : ga_MF mX11_isLikeDevice 2 := ⟨(ga_t5 150 (by decide +kernel) rfl), (ga_t1 13 (by decide +kernel) rfl), ⟨by decide +kernel, by decide +kernel⟩, by decide +kernel, by decide⟩
theorem kX11_isLikeDevice : ga_MV mX11_isLikeDevice := ⟨(ga_t5 149 (by decide +kernel) rfl), (ga_tp 46 (by decide +kernel) rfl)⟩
abbrev mX11_pinsOfClass : ga_M0 := (yX11_pinsOfClass, cX11_pinsOfClass, 7, (some .int), [], none)
theorem fX11_pinsOfClass : ga_MF mX11_pinsOfClass 3 := ⟨(ga_t5 162 (by decide +kernel) rfl), (ga_t1 13 (by decide +kernel) rfl), ⟨by decide +kernel, by decide +kernel⟩, by decide +kernel, by decide⟩
theorem kX11_pinsOfClass : ga_MV mX11_pinsOfClass := ⟨(ga_t5 161 (by decide +kernel) rfl), (ga_tp 49 (by decide +kernel) rfl)⟩
abbrev mX11_isLikeNet : ga_M0 := (yX11_isLikeNet, cX11_isLikeNet, 7, (some .boolean), [], none)
theorem fX11_isLikeNet : ga_MF mX11_isLikeNet 2 := ⟨(ga_t5 158 (by decide +kernel) rfl), (ga_t1 13 (by decide +kernel) rfl), ⟨by decide +kernel, by decide +kernel⟩, by decide +kernel, by decide⟩
theorem kX11_isLikeNet : ga_MV mX11_isLikeNet := ⟨(ga_t5 157 (by decide +kernel) rfl), (ga_tp 48 (by decide +kernel) rfl)⟩
abbrev mX11_isLive : ga_M0 := (yX11_isLive, cX11_isLive, 2, (some .boolean), [], none)
theorem fX11_isLive : ga_MF mX11_isLive 1 := ⟨(ga_t5 130 (by decide +kernel) rfl), (ga_t1 13 (by decide +kernel) rfl), ⟨by decide +kernel, by decide +kernel⟩, by decide +kernel, by decide⟩
theorem kX11_isLive : ga_MV mX11_isLive := ⟨(ga_t5 129 (by decide +kernel) rfl), (ga_tp 41 (by decide +kernel) rfl)⟩
abbrev mX11_isUsedAt : ga_M0 := (yX11_isUsedAt, cX11_isUsedAt, 2, (some .boolean), [], none)
theorem fX11_isUsedAt : ga_MF mX11_isUsedAt 1 := ⟨(ga_t5 134 (by decide +kernel) rfl), (ga_t1 13 (by decide +kernel) rfl), ⟨by decide +kernel, by decide +kernel⟩, by decide +kernel, by decide⟩
theorem kX11_isUsedAt : ga_MV mX11_isUsedAt := ⟨(ga_t5 133 (by decide +kernel) rfl), (ga_tp 42 (by decide +kernel) rfl)⟩
abbrev mX11_round : ga_M0 := (yX11_round, cX11_round, 5, (some .int), [], none)
theorem fX11_round : ga_MF mX11_round 0 := ⟨(ga_t5 146 (by decide +kernel) rfl), (ga_t1 13 (by decide +kernel) rfl), ⟨by decide +kernel, by decide +kernel⟩, by decide +kernel, by decide⟩
theorem kX11_round : ga_MV mX11_round := ⟨(ga_t5 145 (by decide +kernel) rfl), (ga_tp 45 (by decide +kernel) rfl)⟩
abbrev mX11_take : ga_M0 := (yX11_take, cX11_take, 2, none, [], none)
theorem fX11_take : ga_MF mX11_take 0 := ⟨(ga_t5 142 (by decide +kernel) rfl), (ga_t1 13 (by decide +kernel) rfl), ⟨by decide +kernel, by decide +kernel⟩, by decide +kernel, by decide⟩
theorem kX11_take : ga_MV mX11_take := ⟨(ga_t5 141 (by decide +kernel) rfl), (ga_tp 44 (by decide +kernel) rfl)⟩
abbrev mX11_begin : ga_M0 := (yX11_begin, cX11_begin, 5, (some .int), [], none)
theorem fX11_begin : ga_MF mX11_begin 0 := ⟨(ga_t5 126 (by decide +kernel) rfl), (ga_t1 13 (by decide +kernel) rfl), ⟨by decide +kernel, by decide +kernel⟩, by decide +kernel, by decide⟩
theorem kX11_begin : ga_MV mX11_begin := ⟨(ga_t5 125 (by decide +kernel) rfl), (ga_tp 40 (by decide +kernel) rfl)⟩
abbrev mX11_refine : ga_M0 := (yX11_refine, cX11_refine, 6, none, [], none)
theorem fX11_refine : ga_MF mX11_refine 0 := ⟨(ga_t5 122 (by decide +kernel) rfl), (ga_t1 13 (by decide +kernel) rfl), ⟨by decide +kernel, by decide +kernel⟩, by decide +kernel, by decide⟩
theorem kX11_refine : ga_MV mX11_refine := ⟨(ga_t5 121 (by decide +kernel) rfl), (ga_tp 39 (by decide +kernel) rfl)⟩
abbrev mX11_isAgreed : ga_M0 := (yX11_isAgreed, cX11_isAgreed, 11, (some .boolean), [], none)
theorem fX11_isAgreed : ga_MF mX11_isAgreed 2 := ⟨(ga_t5 194 (by decide +kernel) rfl), (ga_t1 13 (by decide +kernel) rfl), ⟨by decide +kernel, by decide +kernel⟩, by decide +kernel, by decide⟩
theorem kX11_isAgreed : ga_MV mX11_isAgreed := ⟨(ga_t5 193 (by decide +kernel) rfl), (ga_tp 57 (by decide +kernel) rfl)⟩
abbrev mX11_isSameNet : ga_M0 := (yX11_isSameNet, cX11_isSameNet, 6, (some .boolean), [], none)
theorem fX11_isSameNet : ga_MF mX11_isSameNet 3 := ⟨(ga_t6 18 (by decide +kernel) rfl), (ga_t1 13 (by decide +kernel) rfl), ⟨by decide +kernel, by decide +kernel⟩, by decide +kernel, by decide⟩
theorem kX11_isSameNet : ga_MV mX11_isSameNet := ⟨(ga_t6 17 (by decide +kernel) rfl), (ga_tp 67 (by decide +kernel) rfl)⟩
abbrev mX11_sortFirst : ga_M0 := (yX11_sortFirst, cX11_sortFirst, 3, none, [], none)
theorem fX11_sortFirst : ga_MF mX11_sortFirst 0 := ⟨(ga_t5 182 (by decide +kernel) rfl), (ga_t1 13 (by decide +kernel) rfl), ⟨by decide +kernel, by decide +kernel⟩, by decide +kernel, by decide⟩
theorem kX11_sortFirst : ga_MV mX11_sortFirst := ⟨(ga_t5 181 (by decide +kernel) rfl), (ga_tp 54 (by decide +kernel) rfl)⟩
abbrev mX11_touch : ga_M0 := (yX11_touch, cX11_touch, 5, (some .int), [], none)
theorem fX11_touch : ga_MF mX11_touch 2 := ⟨(ga_t5 202 (by decide +kernel) rfl), (ga_t1 13 (by decide +kernel) rfl), ⟨by decide +kernel, by decide +kernel⟩, by decide +kernel, by decide⟩
theorem kX11_touch : ga_MV mX11_touch := ⟨(ga_t5 201 (by decide +kernel) rfl), (ga_tp 59 (by decide +kernel) rfl)⟩
abbrev mX11_isSorted : ga_M0 := (yX11_isSorted, cX11_isSorted, 8, (some .boolean), [], none)
theorem fX11_isSorted : ga_MF mX11_isSorted 3 := ⟨(ga_t5 198 (by decide +kernel) rfl), (ga_t1 13 (by decide +kernel) rfl), ⟨by decide +kernel, by decide +kernel⟩, by decide +kernel, by decide⟩
theorem kX11_isSorted : ga_MV mX11_isSorted := ⟨(ga_t5 197 (by decide +kernel) rfl), (ga_tp 58 (by decide +kernel) rfl)⟩
abbrev mX11_pairNets : ga_M0 := (yX11_pairNets, cX11_pairNets, 4, none, [], none)
theorem fX11_pairNets : ga_MF mX11_pairNets 1 := ⟨(ga_t5 206 (by decide +kernel) rfl), (ga_t1 13 (by decide +kernel) rfl), ⟨by decide +kernel, by decide +kernel⟩, by decide +kernel, by decide⟩
theorem kX11_pairNets : ga_MV mX11_pairNets := ⟨(ga_t5 205 (by decide +kernel) rfl), (ga_tp 60 (by decide +kernel) rfl)⟩
abbrev mX11_isFree : ga_M0 := (yX11_isFree, cX11_isFree, 4, (some .boolean), [], none)
theorem fX11_isFree : ga_MF mX11_isFree 2 := ⟨(ga_t5 190 (by decide +kernel) rfl), (ga_t1 13 (by decide +kernel) rfl), ⟨by decide +kernel, by decide +kernel⟩, by decide +kernel, by decide⟩
theorem kX11_isFree : ga_MV mX11_isFree := ⟨(ga_t5 189 (by decide +kernel) rfl), (ga_tp 56 (by decide +kernel) rfl)⟩
abbrev mX11_isChoice : ga_M0 := (yX11_isChoice, cX11_isChoice, 4, (some .boolean), [], none)
theorem fX11_isChoice : ga_MF mX11_isChoice 1 := ⟨(ga_t5 186 (by decide +kernel) rfl), (ga_t1 13 (by decide +kernel) rfl), ⟨by decide +kernel, by decide +kernel⟩, by decide +kernel, by decide⟩
theorem kX11_isChoice : ga_MV mX11_isChoice := ⟨(ga_t5 185 (by decide +kernel) rfl), (ga_tp 55 (by decide +kernel) rfl)⟩
abbrev mX11_isNamed : ga_M0 := (yX11_isNamed, cX11_isNamed, 4, (some .boolean), [], none)
theorem fX11_isNamed : ga_MF mX11_isNamed 0 := ⟨(ga_t5 174 (by decide +kernel) rfl), (ga_t1 13 (by decide +kernel) rfl), ⟨by decide +kernel, by decide +kernel⟩, by decide +kernel, by decide⟩
theorem kX11_isNamed : ga_MV mX11_isNamed := ⟨(ga_t5 173 (by decide +kernel) rfl), (ga_tp 52 (by decide +kernel) rfl)⟩
abbrev mX11_isMatched : ga_M0 := (yX11_isMatched, cX11_isMatched, 2, (some .boolean), [], none)
theorem fX11_isMatched : ga_MF mX11_isMatched 0 := ⟨(ga_t5 166 (by decide +kernel) rfl), (ga_t1 13 (by decide +kernel) rfl), ⟨by decide +kernel, by decide +kernel⟩, by decide +kernel, by decide⟩
theorem kX11_isMatched : ga_MV mX11_isMatched := ⟨(ga_t5 165 (by decide +kernel) rfl), (ga_tp 50 (by decide +kernel) rfl)⟩
abbrev mX11_used : ga_M0 := (yX11_used, cX11_used, 4, (some .int), [], none)
theorem fX11_used : ga_MF mX11_used 1 := ⟨(ga_t5 170 (by decide +kernel) rfl), (ga_t1 13 (by decide +kernel) rfl), ⟨by decide +kernel, by decide +kernel⟩, by decide +kernel, by decide⟩
theorem kX11_used : ga_MV mX11_used := ⟨(ga_t5 169 (by decide +kernel) rfl), (ga_tp 51 (by decide +kernel) rfl)⟩
abbrev mX11_keep : ga_M0 := (yX11_keep, cX11_keep, 2, none, [], none)
theorem fX11_keep : ga_MF mX11_keep 0 := ⟨(ga_t5 210 (by decide +kernel) rfl), (ga_t1 13 (by decide +kernel) rfl), ⟨by decide +kernel, by decide +kernel⟩, by decide +kernel, by decide⟩
theorem kX11_keep : ga_MV mX11_keep := ⟨(ga_t5 209 (by decide +kernel) rfl), (ga_tp 61 (by decide +kernel) rfl)⟩
abbrev mX11_differ : ga_M0 := (yX11_differ, cX11_differ, 6, none, [], none)
theorem fX11_differ : ga_MF mX11_differ 4 := ⟨(ga_t5 222 (by decide +kernel) rfl), (ga_t1 13 (by decide +kernel) rfl), ⟨by decide +kernel, by decide +kernel⟩, by decide +kernel, by decide⟩
theorem kX11_differ : ga_MV mX11_differ := ⟨(ga_t5 221 (by decide +kernel) rfl), (ga_tp 64 (by decide +kernel) rfl)⟩
abbrev mX11_ofKind : ga_M0 := (yX11_ofKind, cX11_ofKind, 5, (some .int), [], none)
theorem fX11_ofKind : ga_MF mX11_ofKind 2 := ⟨(ga_t5 218 (by decide +kernel) rfl), (ga_t1 13 (by decide +kernel) rfl), ⟨by decide +kernel, by decide +kernel⟩, by decide +kernel, by decide⟩
theorem kX11_ofKind : ga_MV mX11_ofKind := ⟨(ga_t5 217 (by decide +kernel) rfl), (ga_tp 63 (by decide +kernel) rfl)⟩
abbrev mX11_hasName : ga_M0 := (yX11_hasName, cX11_hasName, 5, (some .boolean), [], none)
theorem fX11_hasName : ga_MF mX11_hasName 2 := ⟨(ga_t5 178 (by decide +kernel) rfl), (ga_t1 13 (by decide +kernel) rfl), ⟨by decide +kernel, by decide +kernel⟩, by decide +kernel, by decide⟩
theorem kX11_hasName : ga_MV mX11_hasName := ⟨(ga_t5 177 (by decide +kernel) rfl), (ga_tp 53 (by decide +kernel) rfl)⟩
abbrev mX11_differNames : ga_M0 := (yX11_differNames, cX11_differNames, 6, none, [], none)
theorem fX11_differNames : ga_MF mX11_differNames 0 := ⟨(ga_t5 226 (by decide +kernel) rfl), (ga_t1 13 (by decide +kernel) rfl), ⟨by decide +kernel, by decide +kernel⟩, by decide +kernel, by decide⟩
theorem kX11_differNames : ga_MV mX11_differNames := ⟨(ga_t5 225 (by decide +kernel) rfl), (ga_tp 65 (by decide +kernel) rfl)⟩
abbrev mX11_ofClass : ga_M0 := (yX11_ofClass, cX11_ofClass, 5, (some .int), [], none)
theorem fX11_ofClass : ga_MF mX11_ofClass 2 := ⟨(ga_t5 230 (by decide +kernel) rfl), (ga_t1 13 (by decide +kernel) rfl), ⟨by decide +kernel, by decide +kernel⟩, by decide +kernel, by decide⟩
theorem kX11_ofClass : ga_MV mX11_ofClass := ⟨(ga_t5 229 (by decide +kernel) rfl), (ga_tp 66 (by decide +kernel) rfl)⟩
abbrev mX11_explain : ga_M0 := (yX11_explain, cX11_explain, 2, none, [], none)
theorem fX11_explain : ga_MF mX11_explain 0 := ⟨(ga_t5 214 (by decide +kernel) rfl), (ga_t1 13 (by decide +kernel) rfl), ⟨by decide +kernel, by decide +kernel⟩, by decide +kernel, by decide⟩
theorem kX11_explain : ga_MV mX11_explain := ⟨(ga_t5 213 (by decide +kernel) rfl), (ga_tp 62 (by decide +kernel) rfl)⟩
abbrev mX11_run : ga_M0 := (yX11_run, cX11_run, 6, (some .int), [], none)
theorem fX11_run : ga_MF mX11_run 1 := ⟨(ga_t5 117 (by decide +kernel) rfl), (ga_t1 13 (by decide +kernel) rfl), ⟨by decide +kernel, by decide +kernel⟩, by decide +kernel, by decide⟩
theorem kX11_run : ga_MV mX11_run := ⟨(ga_t5 115 (by decide +kernel) rfl), (ga_t5 116 (by decide +kernel) rfl)⟩
abbrev mX11_match : ga_M0 := (yX11_match, cX11_match, 3, (some .int), [], none)
theorem fX11_match : ga_MF mX11_match 2 := ⟨(ga_t5 234 (by decide +kernel) rfl), (ga_t1 13 (by decide +kernel) rfl), ⟨by decide +kernel, by decide +kernel⟩, by decide +kernel, by decide⟩
theorem kX11_match : ga_MV mX11_match := ⟨(ga_t5 232 (by decide +kernel) rfl), (ga_t5 233 (by decide +kernel) rfl)⟩
abbrev mX11_netMatch : ga_M0 := (yX11_netMatch, cX11_netMatch, 2, (some .int), [], none)
theorem fX11_netMatch : ga_MF mX11_netMatch 1 := ⟨(ga_t5 238 (by decide +kernel) rfl), (ga_t1 13 (by decide +kernel) rfl), ⟨by decide +kernel, by decide +kernel⟩, by decide +kernel, by decide⟩
theorem kX11_netMatch : ga_MV mX11_netMatch := ⟨(ga_t5 236 (by decide +kernel) rfl), (ga_t5 237 (by decide +kernel) rfl)⟩
abbrev mX11_differs : ga_M0 := (yX11_differs, cX11_differs, 3, (some .int), [], none)
theorem fX11_differs : ga_MF mX11_differs 2 := ⟨(ga_t6 2 (by decide +kernel) rfl), (ga_t1 13 (by decide +kernel) rfl), ⟨by decide +kernel, by decide +kernel⟩, by decide +kernel, by decide⟩
theorem kX11_differs : ga_MV mX11_differs := ⟨(ga_t6 0 (by decide +kernel) rfl), (ga_t6 1 (by decide +kernel) rfl)⟩
abbrev mX11_rounds : ga_M0 := (yX11_rounds, cX11_rounds, 1, (some .int), [], none)
theorem fX11_rounds : ga_MF mX11_rounds 0 := ⟨(ga_t6 6 (by decide +kernel) rfl), (ga_t1 13 (by decide +kernel) rfl), ⟨by decide +kernel, by decide +kernel⟩, by decide +kernel, by decide⟩
theorem kX11_rounds : ga_MV mX11_rounds := ⟨(ga_t6 4 (by decide +kernel) rfl), (ga_t6 5 (by decide +kernel) rfl)⟩
abbrev mX11_tried : ga_M0 := (yX11_tried, cX11_tried, 1, (some .int), [], none)
theorem fX11_tried : ga_MF mX11_tried 0 := ⟨(ga_t6 10 (by decide +kernel) rfl), (ga_t1 13 (by decide +kernel) rfl), ⟨by decide +kernel, by decide +kernel⟩, by decide +kernel, by decide⟩
theorem kX11_tried : ga_MV mX11_tried := ⟨(ga_t6 8 (by decide +kernel) rfl), (ga_t6 9 (by decide +kernel) rfl)⟩
abbrev mX11_tested : ga_M0 := (yX11_tested, cX11_tested, 4, (some .boolean), [], none)
theorem fX11_tested : ga_MF mX11_tested 0 := ⟨(ga_t6 14 (by decide +kernel) rfl), (ga_t1 13 (by decide +kernel) rfl), ⟨by decide +kernel, by decide +kernel⟩, by decide +kernel, by decide⟩
theorem kX11_tested : ga_MV mX11_tested := ⟨(ga_t6 12 (by decide +kernel) rfl), (ga_t6 13 (by decide +kernel) rfl)⟩
abbrev mJ9_min_7cf53 : ga_M0 := (yJ9_min_7cf53, cJ9_min_7cf53, 2, (some .int), [], none)
theorem fJ9_min_7cf53 : ga_MF mJ9_min_7cf53 2 := ⟨(ga_t3 106 (by decide +kernel) rfl), (ga_t1 20 (by decide +kernel) rfl), ⟨by decide +kernel, by decide +kernel⟩, by decide +kernel, by decide⟩
theorem kJ9_min_7cf53 : ga_MS mJ9_min_7cf53 := (ga_t3 105 (by decide +kernel) rfl)
abbrev mJ7_fill_53178 : ga_M0 := (yJ7_fill_53178, cJ7_fill_53178, 4, none, [], none)
theorem fJ7_fill_53178 : ga_MF mJ7_fill_53178 2 := ⟨(ga_t1 43 (by decide +kernel) rfl), (ga_t1 4 (by decide +kernel) rfl), ⟨by decide +kernel, by decide +kernel⟩, by decide +kernel, by decide⟩
theorem kJ7_fill_53178 : ga_MS mJ7_fill_53178 := (ga_t1 42 (by decide +kernel) rfl)
abbrev mL_net : ga_M0 := (yL_net, cL_net, 5, (some .int), [(0, 10, 13, 13), (0, 10, 17, 15), (0, 10, 21, 17)], none)
theorem fL_net : ga_MF mL_net 4 := ⟨(ga_t2 170 (by decide +kernel) rfl), (ga_t1 0 (by decide +kernel) rfl), ⟨by decide +kernel, by decide +kernel⟩, by decide +kernel, by decide⟩
theorem kL_net : ga_MS mL_net := (ga_t2 169 (by decide +kernel) rfl)
abbrev mL_device : ga_M0 := (yL_device, cL_device, 7, (some .int), [(0, 12, 15, 13), (0, 12, 19, 15), (0, 12, 23, 17)], none)
theorem fL_device : ga_MF mL_device 5 := ⟨(ga_t3 52 (by decide +kernel) rfl), (ga_t1 0 (by decide +kernel) rfl), ⟨by decide +kernel, by decide +kernel⟩, by decide +kernel, by decide⟩
theorem kL_device : ga_MS mL_device := (ga_t3 51 (by decide +kernel) rfl)
abbrev mL_pin : ga_M0 := (yL_pin, cL_pin, 7, (some .int), [(0, 21, 24, 13)], none)
theorem fL_pin : ga_MF mL_pin 6 := ⟨(ga_t3 70 (by decide +kernel) rfl), (ga_t1 0 (by decide +kernel) rfl), ⟨by decide +kernel, by decide +kernel⟩, by decide +kernel, by decide⟩
theorem kL_pin : ga_MS mL_pin := (ga_t3 69 (by decide +kernel) rfl)
abbrev mL_swap : ga_M0 := (yL_swap, cL_swap, 6, (some .int), [(0, 19, 22, 13)], none)
theorem fL_swap : ga_MF mL_swap 5 := ⟨(ga_t3 95 (by decide +kernel) rfl), (ga_t1 0 (by decide +kernel) rfl), ⟨by decide +kernel, by decide +kernel⟩, by decide +kernel, by decide⟩
theorem kL_swap : ga_MS mL_swap := (ga_t3 94 (by decide +kernel) rfl)
abbrev mL_share : ga_M0 := (yL_share, cL_share, 6, (some .int), [(0, 18, 21, 13), (0, 18, 25, 17)], none)
theorem fL_share : ga_MF mL_share 4 := ⟨(ga_t3 109 (by decide +kernel) rfl), (ga_t1 0 (by decide +kernel) rfl), ⟨by decide +kernel, by decide +kernel⟩, by decide +kernel, by decide⟩
theorem kL_share : ga_MS mL_share := (ga_t3 108 (by decide +kernel) rfl)
abbrev mL_port : ga_M0 := (yL_port, cL_port, 6, (some .int), [(0, 19, 22, 13), (0, 19, 26, 17)], none)
theorem fL_port : ga_MF mL_port 5 := ⟨(ga_t3 121 (by decide +kernel) rfl), (ga_t1 0 (by decide +kernel) rfl), ⟨by decide +kernel, by decide +kernel⟩, by decide +kernel, by decide⟩
theorem kL_port : ga_MS mL_port := (ga_t3 120 (by decide +kernel) rfl)
abbrev mL_join : ga_M0 := (yL_join, cL_join, 5, (some .int), [(0, 10, 13, 13), (0, 10, 17, 17)], none)
theorem fL_join : ga_MF mL_join 4 := ⟨(ga_t3 137 (by decide +kernel) rfl), (ga_t1 0 (by decide +kernel) rfl), ⟨by decide +kernel, by decide +kernel⟩, by decide +kernel, by decide⟩
theorem kL_join : ga_MS mL_join := (ga_t3 136 (by decide +kernel) rfl)
abbrev mL_run : ga_M0 := (yL_run, cL_run, 5, (some .int), [(0, 9, 12, 17)], none)
theorem fL_run : ga_MF mL_run 3 := ⟨(ga_t3 191 (by decide +kernel) rfl), (ga_t1 0 (by decide +kernel) rfl), ⟨by decide +kernel, by decide +kernel⟩, by decide +kernel, by decide⟩
theorem kL_run : ga_MS mL_run := (ga_t3 190 (by decide +kernel) rfl)
abbrev mL_match : ga_M0 := (yL_match, cL_match, 5, (some .int), [(0, 10, 13, 13)], none)
theorem fL_match : ga_MF mL_match 4 := ⟨(ga_t4 148 (by decide +kernel) rfl), (ga_t1 0 (by decide +kernel) rfl), ⟨by decide +kernel, by decide +kernel⟩, by decide +kernel, by decide⟩
theorem kL_match : ga_MS mL_match := (ga_t4 147 (by decide +kernel) rfl)
abbrev mL_netMatch : ga_M0 := (yL_netMatch, cL_netMatch, 4, (some .int), [(0, 9, 12, 13)], none)
theorem fL_netMatch : ga_MF mL_netMatch 3 := ⟨(ga_t4 155 (by decide +kernel) rfl), (ga_t1 0 (by decide +kernel) rfl), ⟨by decide +kernel, by decide +kernel⟩, by decide +kernel, by decide⟩
theorem kL_netMatch : ga_MS mL_netMatch := (ga_t4 154 (by decide +kernel) rfl)
abbrev mL_differs : ga_M0 := (yL_differs, cL_differs, 5, (some .int), [(0, 10, 13, 13)], none)
theorem fL_differs : ga_MF mL_differs 4 := ⟨(ga_t4 162 (by decide +kernel) rfl), (ga_t1 0 (by decide +kernel) rfl), ⟨by decide +kernel, by decide +kernel⟩, by decide +kernel, by decide⟩
theorem kL_differs : ga_MS mL_differs := (ga_t4 161 (by decide +kernel) rfl)
theorem nsL_8 : ga_NS RL 8 10 8 [Vn, Vn, Vn, Vn, Vn, Vn, Vi 0, Vi 0] := ⟨RX10, TX10, tyX10, rfl, uwX10, tyX10_ok, (ga_t1 21 (by decide +kernel) rfl), (ga_t1 22 (by decide +kernel) rfl), (ga_t1 1 (by decide +kernel) rfl), (by intro v hv; simp only [List.mem_cons, List.not_mem_nil, or_false] at hv; rcases hv with rfl | rfl | rfl | rfl | rfl | rfl | rfl | rfl <;> first | exact ga_in0 | exact ga_inL0 | trivial), fun ad j hj => by
  rcases Nat.lt_or_ge j 1 with q | q
  · obtain rfl : j = 0 := by omega
    rfl
  rcases Nat.lt_or_ge j 2 with q | q
  · obtain rfl : j = 1 := by omega
    rfl
  rcases Nat.lt_or_ge j 3 with q | q
  · obtain rfl : j = 2 := by omega
    rfl
  rcases Nat.lt_or_ge j 4 with q | q
  · obtain rfl : j = 3 := by omega
    rfl
  rcases Nat.lt_or_ge j 5 with q | q
  · obtain rfl : j = 4 := by omega
    rfl
  rcases Nat.lt_or_ge j 6 with q | q
  · obtain rfl : j = 5 := by omega
    rfl
  rcases Nat.lt_or_ge j 7 with q | q
  · obtain rfl : j = 6 := by omega
    rfl
  rcases Nat.lt_or_ge j 8 with q | q
  · obtain rfl : j = 7 := by omega
    rfl
  omega⟩
theorem lkL_55 : Cond.methodLink RL 55 yX10_init ∈ ga_big := (ga_t1 23 (by decide +kernel) rfl)
theorem lkX10_1 : Cond.methodLink RX10 1 Lib.objectInit ∈ ga_big := (ga_t1 26 (by decide +kernel) rfl)
theorem nsX10_7 : ga_NS RX10 7 1 3 [Vn, Vn, Vn] := ⟨RX1, TX1, tyX1, rfl, uwX1, tyX1_ok, (ga_t1 29 (by decide +kernel) rfl), (ga_t1 30 (by decide +kernel) rfl), (ga_t1 2 (by decide +kernel) rfl), (by intro v hv; simp only [List.mem_cons, List.not_mem_nil, or_false] at hv; rcases hv with rfl | rfl | rfl <;> first | exact ga_in0 | exact ga_inL0 | trivial), fun ad j hj => by
  rcases Nat.lt_or_ge j 1 with q | q
  · obtain rfl : j = 0 := by omega
    rfl
  rcases Nat.lt_or_ge j 2 with q | q
  · obtain rfl : j = 1 := by omega
    rfl
  rcases Nat.lt_or_ge j 3 with q | q
  · obtain rfl : j = 2 := by omega
    rfl
  omega⟩
theorem lkX10_9 : Cond.methodLinkNest RX10 9 yX1_init "GraphCompare" ∈ ga_big := (ga_t1 31 (by decide +kernel) rfl)
theorem lkX1_3 : Cond.methodLink RX1 3 Lib.objectInit ∈ ga_big := (ga_t1 34 (by decide +kernel) rfl)
theorem nsX1_9 : ga_NS RX1 9 9 8 [Vi 0, Vn, Vn, Vi 0, Vn, Vn, Vn, Vn] := ⟨RX9, TX9, tyX9, rfl, uwX9, tyX9_ok, (ga_t1 35 (by decide +kernel) rfl), (ga_t1 36 (by decide +kernel) rfl), (ga_t1 3 (by decide +kernel) rfl), (by intro v hv; simp only [List.mem_cons, List.not_mem_nil, or_false] at hv; rcases hv with rfl | rfl | rfl | rfl | rfl | rfl | rfl | rfl <;> first | exact ga_in0 | exact ga_inL0 | trivial), fun ad j hj => by
  rcases Nat.lt_or_ge j 1 with q | q
  · obtain rfl : j = 0 := by omega
    rfl
  rcases Nat.lt_or_ge j 2 with q | q
  · obtain rfl : j = 1 := by omega
    rfl
  rcases Nat.lt_or_ge j 3 with q | q
  · obtain rfl : j = 2 := by omega
    rfl
  rcases Nat.lt_or_ge j 4 with q | q
  · obtain rfl : j = 3 := by omega
    rfl
  rcases Nat.lt_or_ge j 5 with q | q
  · obtain rfl : j = 4 := by omega
    rfl
  rcases Nat.lt_or_ge j 6 with q | q
  · obtain rfl : j = 5 := by omega
    rfl
  rcases Nat.lt_or_ge j 7 with q | q
  · obtain rfl : j = 6 := by omega
    rfl
  rcases Nat.lt_or_ge j 8 with q | q
  · obtain rfl : j = 7 := by omega
    rfl
  omega⟩
theorem lkX1_11 : Cond.methodLink RX1 11 yX9_init ∈ ga_big := (ga_t1 37 (by decide +kernel) rfl)
theorem lkX9_3 : Cond.methodLink RX9 3 Lib.objectInit ∈ ga_big := (ga_t1 40 (by decide +kernel) rfl)
theorem lkX9_39 : Cond.methodLink RX9 39 yJ7_fill_53178 ∈ ga_big := (ga_t1 41 (by decide +kernel) rfl)
theorem grX9_9 : ga_FR RX9 9 9 0 .int := ⟨RX9, TX9, 8, "", rfl, by decide, uwX9, Or.inl (ga_t1 44 (by decide +kernel) rfl), rfl⟩
theorem gfX9_9 : ga_FS RX9 9 9 0 false .int := ⟨RX9, TX9, 8, tyX9, "", rfl, by decide, uwX9, tyX9_ok, nmX9, Or.inl (ga_t1 44 (by decide +kernel) rfl), rfl, rfl, (fun z => by cases z)⟩
theorem grX10_62 : ga_FR RX10 62 9 0 .int := ⟨RX9, TX9, 8, "GraphCompare", rfl, by decide, uwX9, Or.inr (ga_t1 45 (by decide +kernel) rfl), rfl⟩
theorem gfX10_62 : ga_FS RX10 62 9 0 false .int := ⟨RX9, TX9, 8, tyX9, "GraphCompare", rfl, by decide, uwX9, tyX9_ok, nmX9, Or.inr (ga_t1 45 (by decide +kernel) rfl), rfl, rfl, (fun z => by cases z)⟩
theorem grX8_83 : ga_FR RX8 83 9 0 .int := ⟨RX9, TX9, 8, "GraphCompare", rfl, by decide, uwX9, Or.inr (ga_t1 46 (by decide +kernel) rfl), rfl⟩
theorem gfX8_83 : ga_FS RX8 83 9 0 false .int := ⟨RX9, TX9, 8, tyX9, "GraphCompare", rfl, by decide, uwX9, tyX9_ok, nmX9, Or.inr (ga_t1 46 (by decide +kernel) rfl), rfl, rfl, (fun z => by cases z)⟩
theorem grX0_83 : ga_FR RX0 83 9 0 .int := ⟨RX9, TX9, 8, "GraphCompare", rfl, by decide, uwX9, Or.inr (ga_t1 47 (by decide +kernel) rfl), rfl⟩
theorem gfX0_83 : ga_FS RX0 83 9 0 false .int := ⟨RX9, TX9, 8, tyX9, "GraphCompare", rfl, by decide, uwX9, tyX9_ok, nmX9, Or.inr (ga_t1 47 (by decide +kernel) rfl), rfl, rfl, (fun z => by cases z)⟩
theorem grX5_67 : ga_FR RX5 67 9 0 .int := ⟨RX9, TX9, 8, "GraphCompare", rfl, by decide, uwX9, Or.inr (ga_t1 48 (by decide +kernel) rfl), rfl⟩
theorem gfX5_67 : ga_FS RX5 67 9 0 false .int := ⟨RX9, TX9, 8, tyX9, "GraphCompare", rfl, by decide, uwX9, tyX9_ok, nmX9, Or.inr (ga_t1 48 (by decide +kernel) rfl), rfl, rfl, (fun z => by cases z)⟩
theorem grX9_15 : ga_FR RX9 15 9 1 (.array .int) := ⟨RX9, TX9, 8, "", rfl, by decide, uwX9, Or.inl (ga_t1 49 (by decide +kernel) rfl), rfl⟩
theorem gfX9_15 : ga_FS RX9 15 9 1 true (.array .int) := ⟨RX9, TX9, 8, tyX9, "", rfl, by decide, uwX9, tyX9_ok, nmX9, Or.inl (ga_t1 49 (by decide +kernel) rfl), rfl, rfl, (fun z => ⟨rfl, (ga_t1 49 (by decide +kernel) rfl)⟩)⟩
theorem grX0_89 : ga_FR RX0 89 9 1 (.array .int) := ⟨RX9, TX9, 8, "GraphCompare", rfl, by decide, uwX9, Or.inr (ga_t1 50 (by decide +kernel) rfl), rfl⟩
theorem grX8_125 : ga_FR RX8 125 9 1 (.array .int) := ⟨RX9, TX9, 8, "GraphCompare", rfl, by decide, uwX9, Or.inr (ga_t1 51 (by decide +kernel) rfl), rfl⟩
theorem grX5_73 : ga_FR RX5 73 9 1 (.array .int) := ⟨RX9, TX9, 8, "GraphCompare", rfl, by decide, uwX9, Or.inr (ga_t1 52 (by decide +kernel) rfl), rfl⟩
theorem grX9_19 : ga_FR RX9 19 9 2 (.array .boolean) := ⟨RX9, TX9, 8, "", rfl, by decide, uwX9, Or.inl (ga_t1 53 (by decide +kernel) rfl), rfl⟩
theorem gfX9_19 : ga_FS RX9 19 9 2 true (.array .boolean) := ⟨RX9, TX9, 8, tyX9, "", rfl, by decide, uwX9, tyX9_ok, nmX9, Or.inl (ga_t1 53 (by decide +kernel) rfl), rfl, rfl, (fun z => ⟨rfl, (ga_t1 53 (by decide +kernel) rfl)⟩)⟩
theorem grX8_88 : ga_FR RX8 88 9 2 (.array .boolean) := ⟨RX9, TX9, 8, "GraphCompare", rfl, by decide, uwX9, Or.inr (ga_t1 54 (by decide +kernel) rfl), rfl⟩
theorem grX0_86 : ga_FR RX0 86 9 2 (.array .boolean) := ⟨RX9, TX9, 8, "GraphCompare", rfl, by decide, uwX9, Or.inr (ga_t1 55 (by decide +kernel) rfl), rfl⟩
theorem grX5_70 : ga_FR RX5 70 9 2 (.array .boolean) := ⟨RX9, TX9, 8, "GraphCompare", rfl, by decide, uwX9, Or.inr (ga_t1 56 (by decide +kernel) rfl), rfl⟩
theorem grX9_23 : ga_FR RX9 23 9 3 .int := ⟨RX9, TX9, 8, "", rfl, by decide, uwX9, Or.inl (ga_t1 57 (by decide +kernel) rfl), rfl⟩
theorem gfX9_23 : ga_FS RX9 23 9 3 false .int := ⟨RX9, TX9, 8, tyX9, "", rfl, by decide, uwX9, tyX9_ok, nmX9, Or.inl (ga_t1 57 (by decide +kernel) rfl), rfl, rfl, (fun z => by cases z)⟩
theorem grX3_23 : ga_FR RX3 23 9 3 .int := ⟨RX9, TX9, 8, "GraphCompare", rfl, by decide, uwX9, Or.inr (ga_t1 58 (by decide +kernel) rfl), rfl⟩
theorem gfX3_23 : ga_FS RX3 23 9 3 false .int := ⟨RX9, TX9, 8, tyX9, "GraphCompare", rfl, by decide, uwX9, tyX9_ok, nmX9, Or.inr (ga_t1 58 (by decide +kernel) rfl), rfl, rfl, (fun z => by cases z)⟩
theorem grX10_92 : ga_FR RX10 92 9 3 .int := ⟨RX9, TX9, 8, "GraphCompare", rfl, by decide, uwX9, Or.inr (ga_t1 59 (by decide +kernel) rfl), rfl⟩
theorem gfX10_92 : ga_FS RX10 92 9 3 false .int := ⟨RX9, TX9, 8, tyX9, "GraphCompare", rfl, by decide, uwX9, tyX9_ok, nmX9, Or.inr (ga_t1 59 (by decide +kernel) rfl), rfl, rfl, (fun z => by cases z)⟩
theorem grX0_58 : ga_FR RX0 58 9 3 .int := ⟨RX9, TX9, 8, "GraphCompare", rfl, by decide, uwX9, Or.inr (ga_t1 60 (by decide +kernel) rfl), rfl⟩
theorem gfX0_58 : ga_FS RX0 58 9 3 false .int := ⟨RX9, TX9, 8, tyX9, "GraphCompare", rfl, by decide, uwX9, tyX9_ok, nmX9, Or.inr (ga_t1 60 (by decide +kernel) rfl), rfl, rfl, (fun z => by cases z)⟩
theorem grX8_113 : ga_FR RX8 113 9 3 .int := ⟨RX9, TX9, 8, "GraphCompare", rfl, by decide, uwX9, Or.inr (ga_t1 61 (by decide +kernel) rfl), rfl⟩
theorem gfX8_113 : ga_FS RX8 113 9 3 false .int := ⟨RX9, TX9, 8, tyX9, "GraphCompare", rfl, by decide, uwX9, tyX9_ok, nmX9, Or.inr (ga_t1 61 (by decide +kernel) rfl), rfl, rfl, (fun z => by cases z)⟩
theorem grX5_57 : ga_FR RX5 57 9 3 .int := ⟨RX9, TX9, 8, "GraphCompare", rfl, by decide, uwX9, Or.inr (ga_t1 62 (by decide +kernel) rfl), rfl⟩
theorem gfX5_57 : ga_FS RX5 57 9 3 false .int := ⟨RX9, TX9, 8, tyX9, "GraphCompare", rfl, by decide, uwX9, tyX9_ok, nmX9, Or.inr (ga_t1 62 (by decide +kernel) rfl), rfl, rfl, (fun z => by cases z)⟩
theorem grX2_70 : ga_FR RX2 70 9 3 .int := ⟨RX9, TX9, 8, "GraphCompare", rfl, by decide, uwX9, Or.inr (ga_t1 63 (by decide +kernel) rfl), rfl⟩
theorem gfX2_70 : ga_FS RX2 70 9 3 false .int := ⟨RX9, TX9, 8, tyX9, "GraphCompare", rfl, by decide, uwX9, tyX9_ok, nmX9, Or.inr (ga_t1 63 (by decide +kernel) rfl), rfl, rfl, (fun z => by cases z)⟩
theorem grX9_26 : ga_FR RX9 26 9 4 (.array .int) := ⟨RX9, TX9, 8, "", rfl, by decide, uwX9, Or.inl (ga_t1 64 (by decide +kernel) rfl), rfl⟩
theorem gfX9_26 : ga_FS RX9 26 9 4 true (.array .int) := ⟨RX9, TX9, 8, tyX9, "", rfl, by decide, uwX9, tyX9_ok, nmX9, Or.inl (ga_t1 64 (by decide +kernel) rfl), rfl, rfl, (fun z => ⟨rfl, (ga_t1 64 (by decide +kernel) rfl)⟩)⟩
theorem grX6_31 : ga_FR RX6 31 9 4 (.array .int) := ⟨RX9, TX9, 8, "GraphCompare", rfl, by decide, uwX9, Or.inr (ga_t1 65 (by decide +kernel) rfl), rfl⟩
theorem grX3_51 : ga_FR RX3 51 9 4 (.array .int) := ⟨RX9, TX9, 8, "GraphCompare", rfl, by decide, uwX9, Or.inr (ga_t1 66 (by decide +kernel) rfl), rfl⟩
theorem grX0_77 : ga_FR RX0 77 9 4 (.array .int) := ⟨RX9, TX9, 8, "GraphCompare", rfl, by decide, uwX9, Or.inr (ga_t1 67 (by decide +kernel) rfl), rfl⟩
theorem grX4_33 : ga_FR RX4 33 9 4 (.array .int) := ⟨RX9, TX9, 8, "GraphCompare", rfl, by decide, uwX9, Or.inr (ga_t1 68 (by decide +kernel) rfl), rfl⟩
theorem grX8_142 : ga_FR RX8 142 9 4 (.array .int) := ⟨RX9, TX9, 8, "GraphCompare", rfl, by decide, uwX9, Or.inr (ga_t1 69 (by decide +kernel) rfl), rfl⟩
theorem grX5_80 : ga_FR RX5 80 9 4 (.array .int) := ⟨RX9, TX9, 8, "GraphCompare", rfl, by decide, uwX9, Or.inr (ga_t1 70 (by decide +kernel) rfl), rfl⟩
theorem grX9_29 : ga_FR RX9 29 9 5 (.array .double) := ⟨RX9, TX9, 8, "", rfl, by decide, uwX9, Or.inl (ga_t1 71 (by decide +kernel) rfl), rfl⟩
theorem gfX9_29 : ga_FS RX9 29 9 5 true (.array .double) := ⟨RX9, TX9, 8, tyX9, "", rfl, by decide, uwX9, tyX9_ok, nmX9, Or.inl (ga_t1 71 (by decide +kernel) rfl), rfl, rfl, (fun z => ⟨rfl, (ga_t1 71 (by decide +kernel) rfl)⟩)⟩
theorem grX3_70 : ga_FR RX3 70 9 5 (.array .double) := ⟨RX9, TX9, 8, "GraphCompare", rfl, by decide, uwX9, Or.inr (ga_t1 72 (by decide +kernel) rfl), rfl⟩
theorem grX8_138 : ga_FR RX8 138 9 5 (.array .double) := ⟨RX9, TX9, 8, "GraphCompare", rfl, by decide, uwX9, Or.inr (ga_t1 73 (by decide +kernel) rfl), rfl⟩
theorem grX5_87 : ga_FR RX5 87 9 5 (.array .double) := ⟨RX9, TX9, 8, "GraphCompare", rfl, by decide, uwX9, Or.inr (ga_t1 74 (by decide +kernel) rfl), rfl⟩
theorem grX9_33 : ga_FR RX9 33 9 6 (.array .boolean) := ⟨RX9, TX9, 8, "", rfl, by decide, uwX9, Or.inl (ga_t1 75 (by decide +kernel) rfl), rfl⟩
theorem gfX9_33 : ga_FS RX9 33 9 6 true (.array .boolean) := ⟨RX9, TX9, 8, tyX9, "", rfl, by decide, uwX9, tyX9_ok, nmX9, Or.inl (ga_t1 75 (by decide +kernel) rfl), rfl, rfl, (fun z => ⟨rfl, (ga_t1 75 (by decide +kernel) rfl)⟩)⟩
theorem grX0_63 : ga_FR RX0 63 9 6 (.array .boolean) := ⟨RX9, TX9, 8, "GraphCompare", rfl, by decide, uwX9, Or.inr (ga_t1 76 (by decide +kernel) rfl), rfl⟩
theorem grX10_108 : ga_FR RX10 108 9 6 (.array .boolean) := ⟨RX9, TX9, 8, "GraphCompare", rfl, by decide, uwX9, Or.inr (ga_t1 77 (by decide +kernel) rfl), rfl⟩
theorem grX3_43 : ga_FR RX3 43 9 6 (.array .boolean) := ⟨RX9, TX9, 8, "GraphCompare", rfl, by decide, uwX9, Or.inr (ga_t1 78 (by decide +kernel) rfl), rfl⟩
theorem grX8_114 : ga_FR RX8 114 9 6 (.array .boolean) := ⟨RX9, TX9, 8, "GraphCompare", rfl, by decide, uwX9, Or.inr (ga_t1 79 (by decide +kernel) rfl), rfl⟩
theorem grX5_63 : ga_FR RX5 63 9 6 (.array .boolean) := ⟨RX9, TX9, 8, "GraphCompare", rfl, by decide, uwX9, Or.inr (ga_t1 80 (by decide +kernel) rfl), rfl⟩
theorem grX2_73 : ga_FR RX2 73 9 6 (.array .boolean) := ⟨RX9, TX9, 8, "GraphCompare", rfl, by decide, uwX9, Or.inr (ga_t1 81 (by decide +kernel) rfl), rfl⟩
theorem grX9_36 : ga_FR RX9 36 9 7 (.array .int) := ⟨RX9, TX9, 8, "", rfl, by decide, uwX9, Or.inl (ga_t1 82 (by decide +kernel) rfl), rfl⟩
theorem gfX9_36 : ga_FS RX9 36 9 7 true (.array .int) := ⟨RX9, TX9, 8, tyX9, "", rfl, by decide, uwX9, tyX9_ok, nmX9, Or.inl (ga_t1 82 (by decide +kernel) rfl), rfl, rfl, (fun z => ⟨rfl, (ga_t1 82 (by decide +kernel) rfl)⟩)⟩
theorem nsX1_21 : ga_NS RX1 21 4 2 [Vn, Vn] := ⟨RX4, TX4, tyX4, rfl, uwX4, tyX4_ok, (ga_t1 103 (by decide +kernel) rfl), (ga_t1 104 (by decide +kernel) rfl), (ga_t1 5 (by decide +kernel) rfl), (by intro v hv; simp only [List.mem_cons, List.not_mem_nil, or_false] at hv; rcases hv with rfl | rfl <;> first | exact ga_in0 | exact ga_inL0 | trivial), fun ad j hj => by
  rcases Nat.lt_or_ge j 1 with q | q
  · obtain rfl : j = 0 := by omega
    rfl
  rcases Nat.lt_or_ge j 2 with q | q
  · obtain rfl : j = 1 := by omega
    rfl
  omega⟩
theorem lkX1_23 : Cond.methodLink RX1 23 yX4_init ∈ ga_big := (ga_t1 105 (by decide +kernel) rfl)
theorem lkX4_3 : Cond.methodLink RX4 3 Lib.objectInit ∈ ga_big := (ga_t1 108 (by decide +kernel) rfl)
theorem grX4_9 : ga_FR RX4 9 4 0 (.array .int) := ⟨RX4, TX4, 2, "", rfl, by decide, uwX4, Or.inl (ga_t1 109 (by decide +kernel) rfl), rfl⟩
theorem gfX4_9 : ga_FS RX4 9 4 0 true (.array .int) := ⟨RX4, TX4, 2, tyX4, "", rfl, by decide, uwX4, tyX4_ok, nmX4, Or.inl (ga_t1 109 (by decide +kernel) rfl), rfl, rfl, (fun z => ⟨rfl, (ga_t1 109 (by decide +kernel) rfl)⟩)⟩
theorem grX4_15 : ga_FR RX4 15 4 1 (.array .double) := ⟨RX4, TX4, 2, "", rfl, by decide, uwX4, Or.inl (ga_t1 110 (by decide +kernel) rfl), rfl⟩
theorem gfX4_15 : ga_FS RX4 15 4 1 true (.array .double) := ⟨RX4, TX4, 2, tyX4, "", rfl, by decide, uwX4, tyX4_ok, nmX4, Or.inl (ga_t1 110 (by decide +kernel) rfl), rfl, rfl, (fun z => ⟨rfl, (ga_t1 110 (by decide +kernel) rfl)⟩)⟩
theorem grX1_12 : ga_FR RX1 12 1 0 (.object "GraphCompare$Side") := ⟨RX1, TX1, 3, "", rfl, by decide, uwX1, Or.inl (ga_t1 116 (by decide +kernel) rfl), rfl⟩
theorem gfX1_12 : ga_FS RX1 12 1 0 true (.object "GraphCompare$Side") := ⟨RX1, TX1, 3, tyX1, "", rfl, by decide, uwX1, tyX1_ok, nmX1, Or.inl (ga_t1 116 (by decide +kernel) rfl), rfl, rfl, (fun z => ⟨rfl, (ga_t1 116 (by decide +kernel) rfl)⟩)⟩
theorem grX0_42 : ga_FR RX0 42 1 0 (.object "GraphCompare$Side") := ⟨RX1, TX1, 3, "GraphCompare", rfl, by decide, uwX1, Or.inr (ga_t1 117 (by decide +kernel) rfl), rfl⟩
theorem grX8_77 : ga_FR RX8 77 1 0 (.object "GraphCompare$Side") := ⟨RX1, TX1, 3, "GraphCompare", rfl, by decide, uwX1, Or.inr (ga_t1 118 (by decide +kernel) rfl), rfl⟩
theorem grX2_41 : ga_FR RX2 41 1 0 (.object "GraphCompare$Side") := ⟨RX1, TX1, 3, "GraphCompare", rfl, by decide, uwX1, Or.inr (ga_t1 119 (by decide +kernel) rfl), rfl⟩
theorem grX5_37 : ga_FR RX5 37 1 0 (.object "GraphCompare$Side") := ⟨RX1, TX1, 3, "GraphCompare", rfl, by decide, uwX1, Or.inr (ga_t1 120 (by decide +kernel) rfl), rfl⟩
theorem grX10_188 : ga_FR RX10 188 1 0 (.object "GraphCompare$Side") := ⟨RX1, TX1, 3, "GraphCompare", rfl, by decide, uwX1, Or.inr (ga_t1 121 (by decide +kernel) rfl), rfl⟩
theorem grX1_18 : ga_FR RX1 18 1 1 (.object "GraphCompare$Side") := ⟨RX1, TX1, 3, "", rfl, by decide, uwX1, Or.inl (ga_t1 122 (by decide +kernel) rfl), rfl⟩
theorem gfX1_18 : ga_FS RX1 18 1 1 true (.object "GraphCompare$Side") := ⟨RX1, TX1, 3, tyX1, "", rfl, by decide, uwX1, tyX1_ok, nmX1, Or.inl (ga_t1 122 (by decide +kernel) rfl), rfl, rfl, (fun z => ⟨rfl, (ga_t1 122 (by decide +kernel) rfl)⟩)⟩
theorem grX0_52 : ga_FR RX0 52 1 1 (.object "GraphCompare$Side") := ⟨RX1, TX1, 3, "GraphCompare", rfl, by decide, uwX1, Or.inr (ga_t1 123 (by decide +kernel) rfl), rfl⟩
theorem grX8_91 : ga_FR RX8 91 1 1 (.object "GraphCompare$Side") := ⟨RX1, TX1, 3, "GraphCompare", rfl, by decide, uwX1, Or.inr (ga_t1 124 (by decide +kernel) rfl), rfl⟩
theorem grX2_53 : ga_FR RX2 53 1 1 (.object "GraphCompare$Side") := ⟨RX1, TX1, 3, "GraphCompare", rfl, by decide, uwX1, Or.inr (ga_t1 125 (by decide +kernel) rfl), rfl⟩
theorem grX5_43 : ga_FR RX5 43 1 1 (.object "GraphCompare$Side") := ⟨RX1, TX1, 3, "GraphCompare", rfl, by decide, uwX1, Or.inr (ga_t1 126 (by decide +kernel) rfl), rfl⟩
theorem grX1_24 : ga_FR RX1 24 1 2 (.object "GraphCompare$Kinds") := ⟨RX1, TX1, 3, "", rfl, by decide, uwX1, Or.inl (ga_t1 127 (by decide +kernel) rfl), rfl⟩
theorem gfX1_24 : ga_FS RX1 24 1 2 true (.object "GraphCompare$Kinds") := ⟨RX1, TX1, 3, tyX1, "", rfl, by decide, uwX1, tyX1_ok, nmX1, Or.inl (ga_t1 127 (by decide +kernel) rfl), rfl, rfl, (fun z => ⟨rfl, (ga_t1 127 (by decide +kernel) rfl)⟩)⟩
theorem grX10_128 : ga_FR RX10 128 1 2 (.object "GraphCompare$Kinds") := ⟨RX1, TX1, 3, "GraphCompare", rfl, by decide, uwX1, Or.inr (ga_t1 128 (by decide +kernel) rfl), rfl⟩
theorem grX0_99 : ga_FR RX0 99 1 2 (.object "GraphCompare$Kinds") := ⟨RX1, TX1, 3, "GraphCompare", rfl, by decide, uwX1, Or.inr (ga_t1 129 (by decide +kernel) rfl), rfl⟩
theorem grX8_145 : ga_FR RX8 145 1 2 (.object "GraphCompare$Kinds") := ⟨RX1, TX1, 3, "GraphCompare", rfl, by decide, uwX1, Or.inr (ga_t1 130 (by decide +kernel) rfl), rfl⟩
theorem grX5_83 : ga_FR RX5 83 1 2 (.object "GraphCompare$Kinds") := ⟨RX1, TX1, 3, "GraphCompare", rfl, by decide, uwX1, Or.inr (ga_t1 131 (by decide +kernel) rfl), rfl⟩
theorem nsX10_16 : ga_NS RX10 16 3 1 [Vn] := ⟨RX3, TX3, tyX3, rfl, uwX3, tyX3_ok, (ga_t1 139 (by decide +kernel) rfl), (ga_t1 140 (by decide +kernel) rfl), (ga_t1 6 (by decide +kernel) rfl), (by intro v hv; simp only [List.mem_cons, List.not_mem_nil, or_false] at hv; rcases hv with rfl <;> first | exact ga_in0 | exact ga_inL0 | trivial), fun ad j hj => by
  rcases Nat.lt_or_ge j 1 with q | q
  · obtain rfl : j = 0 := by omega
    rfl
  omega⟩
theorem lkX10_18 : Cond.methodLinkNest RX10 18 yX3_init "GraphCompare" ∈ ga_big := (ga_t1 141 (by decide +kernel) rfl)
theorem lkX3_3 : Cond.methodLink RX3 3 Lib.objectInit ∈ ga_big := (ga_t1 144 (by decide +kernel) rfl)
theorem grX3_9 : ga_FR RX3 9 3 0 (.array .int) := ⟨RX3, TX3, 1, "", rfl, by decide, uwX3, Or.inl (ga_t1 145 (by decide +kernel) rfl), rfl⟩
theorem gfX3_9 : ga_FS RX3 9 3 0 true (.array .int) := ⟨RX3, TX3, 1, tyX3, "", rfl, by decide, uwX3, tyX3_ok, nmX3, Or.inl (ga_t1 145 (by decide +kernel) rfl), rfl, rfl, (fun z => ⟨rfl, (ga_t1 145 (by decide +kernel) rfl)⟩)⟩
theorem nsX10_23 : ga_NS RX10 23 0 5 [Vn, Vn, Vi 0, Vn, Vn] := ⟨RX0, TX0, tyX0, rfl, uwX0, tyX0_ok, (ga_t1 149 (by decide +kernel) rfl), (ga_t1 150 (by decide +kernel) rfl), (ga_t1 7 (by decide +kernel) rfl), (by intro v hv; simp only [List.mem_cons, List.not_mem_nil, or_false] at hv; rcases hv with rfl | rfl | rfl | rfl | rfl <;> first | exact ga_in0 | exact ga_inL0 | trivial), fun ad j hj => by
  rcases Nat.lt_or_ge j 1 with q | q
  · obtain rfl : j = 0 := by omega
    rfl
  rcases Nat.lt_or_ge j 2 with q | q
  · obtain rfl : j = 1 := by omega
    rfl
  rcases Nat.lt_or_ge j 3 with q | q
  · obtain rfl : j = 2 := by omega
    rfl
  rcases Nat.lt_or_ge j 4 with q | q
  · obtain rfl : j = 3 := by omega
    rfl
  rcases Nat.lt_or_ge j 5 with q | q
  · obtain rfl : j = 4 := by omega
    rfl
  omega⟩
theorem lkX10_25 : Cond.methodLinkNest RX10 25 yX0_init "GraphCompare" ∈ ga_big := (ga_t1 151 (by decide +kernel) rfl)
theorem lkX0_3 : Cond.methodLink RX0 3 Lib.objectInit ∈ ga_big := (ga_t1 154 (by decide +kernel) rfl)
theorem nsX0_9 : ga_NS RX0 9 7 9 [Vi 0, Vi 0, Vi 0, Vn, Vn, Vn, Vn, Vn, Vn] := ⟨RX7, TX7, tyX7, rfl, uwX7, tyX7_ok, (ga_t1 155 (by decide +kernel) rfl), (ga_t1 156 (by decide +kernel) rfl), (ga_t1 8 (by decide +kernel) rfl), (by intro v hv; simp only [List.mem_cons, List.not_mem_nil, or_false] at hv; rcases hv with rfl | rfl | rfl | rfl | rfl | rfl | rfl | rfl | rfl <;> first | exact ga_in0 | exact ga_inL0 | trivial), fun ad j hj => by
  rcases Nat.lt_or_ge j 1 with q | q
  · obtain rfl : j = 0 := by omega
    rfl
  rcases Nat.lt_or_ge j 2 with q | q
  · obtain rfl : j = 1 := by omega
    rfl
  rcases Nat.lt_or_ge j 3 with q | q
  · obtain rfl : j = 2 := by omega
    rfl
  rcases Nat.lt_or_ge j 4 with q | q
  · obtain rfl : j = 3 := by omega
    rfl
  rcases Nat.lt_or_ge j 5 with q | q
  · obtain rfl : j = 4 := by omega
    rfl
  rcases Nat.lt_or_ge j 6 with q | q
  · obtain rfl : j = 5 := by omega
    rfl
  rcases Nat.lt_or_ge j 7 with q | q
  · obtain rfl : j = 6 := by omega
    rfl
  rcases Nat.lt_or_ge j 8 with q | q
  · obtain rfl : j = 7 := by omega
    rfl
  rcases Nat.lt_or_ge j 9 with q | q
  · obtain rfl : j = 8 := by omega
    rfl
  omega⟩
theorem lkX0_11 : Cond.methodLink RX0 11 yX7_init ∈ ga_big := (ga_t1 157 (by decide +kernel) rfl)
theorem lkX7_3 : Cond.methodLink RX7 3 Lib.objectInit ∈ ga_big := (ga_t1 160 (by decide +kernel) rfl)
theorem grX7_15 : ga_FR RX7 15 7 0 .int := ⟨RX7, TX7, 9, "", rfl, by decide, uwX7, Or.inl (ga_t1 161 (by decide +kernel) rfl), rfl⟩
theorem gfX7_15 : ga_FS RX7 15 7 0 true .int := ⟨RX7, TX7, 9, tyX7, "", rfl, by decide, uwX7, tyX7_ok, nmX7, Or.inl (ga_t1 161 (by decide +kernel) rfl), rfl, rfl, (fun z => ⟨rfl, (ga_t1 161 (by decide +kernel) rfl)⟩)⟩
theorem grX7_18 : ga_FR RX7 18 7 1 .int := ⟨RX7, TX7, 9, "", rfl, by decide, uwX7, Or.inl (ga_t1 162 (by decide +kernel) rfl), rfl⟩
theorem gfX7_18 : ga_FS RX7 18 7 1 true .int := ⟨RX7, TX7, 9, tyX7, "", rfl, by decide, uwX7, tyX7_ok, nmX7, Or.inl (ga_t1 162 (by decide +kernel) rfl), rfl, rfl, (fun z => ⟨rfl, (ga_t1 162 (by decide +kernel) rfl)⟩)⟩
theorem grX7_9 : ga_FR RX7 9 7 2 .int := ⟨RX7, TX7, 9, "", rfl, by decide, uwX7, Or.inl (ga_t1 163 (by decide +kernel) rfl), rfl⟩
theorem gfX7_9 : ga_FS RX7 9 7 2 false .int := ⟨RX7, TX7, 9, tyX7, "", rfl, by decide, uwX7, tyX7_ok, nmX7, Or.inl (ga_t1 163 (by decide +kernel) rfl), rfl, rfl, (fun z => by cases z)⟩
theorem grX7_21 : ga_FR RX7 21 7 3 (.array .int) := ⟨RX7, TX7, 9, "", rfl, by decide, uwX7, Or.inl (ga_t1 164 (by decide +kernel) rfl), rfl⟩
theorem gfX7_21 : ga_FS RX7 21 7 3 true (.array .int) := ⟨RX7, TX7, 9, tyX7, "", rfl, by decide, uwX7, tyX7_ok, nmX7, Or.inl (ga_t1 164 (by decide +kernel) rfl), rfl, rfl, (fun z => ⟨rfl, (ga_t1 164 (by decide +kernel) rfl)⟩)⟩
theorem grX0_55 : ga_FR RX0 55 7 3 (.array .int) := ⟨RX7, TX7, 9, "GraphCompare", rfl, by decide, uwX7, Or.inr (ga_t1 165 (by decide +kernel) rfl), rfl⟩
theorem grX7_25 : ga_FR RX7 25 7 4 (.array .int) := ⟨RX7, TX7, 9, "", rfl, by decide, uwX7, Or.inl (ga_t1 166 (by decide +kernel) rfl), rfl⟩
theorem gfX7_25 : ga_FS RX7 25 7 4 true (.array .int) := ⟨RX7, TX7, 9, tyX7, "", rfl, by decide, uwX7, tyX7_ok, nmX7, Or.inl (ga_t1 166 (by decide +kernel) rfl), rfl, rfl, (fun z => ⟨rfl, (ga_t1 166 (by decide +kernel) rfl)⟩)⟩
theorem grX7_28 : ga_FR RX7 28 7 5 (.array .int) := ⟨RX7, TX7, 9, "", rfl, by decide, uwX7, Or.inl (ga_t1 167 (by decide +kernel) rfl), rfl⟩
theorem gfX7_28 : ga_FS RX7 28 7 5 true (.array .int) := ⟨RX7, TX7, 9, tyX7, "", rfl, by decide, uwX7, tyX7_ok, nmX7, Or.inl (ga_t1 167 (by decide +kernel) rfl), rfl, rfl, (fun z => ⟨rfl, (ga_t1 167 (by decide +kernel) rfl)⟩)⟩
theorem grX7_31 : ga_FR RX7 31 7 6 (.array .int) := ⟨RX7, TX7, 9, "", rfl, by decide, uwX7, Or.inl (ga_t1 168 (by decide +kernel) rfl), rfl⟩
theorem gfX7_31 : ga_FS RX7 31 7 6 true (.array .int) := ⟨RX7, TX7, 9, tyX7, "", rfl, by decide, uwX7, tyX7_ok, nmX7, Or.inl (ga_t1 168 (by decide +kernel) rfl), rfl, rfl, (fun z => ⟨rfl, (ga_t1 168 (by decide +kernel) rfl)⟩)⟩
theorem grX7_34 : ga_FR RX7 34 7 7 (.array .int) := ⟨RX7, TX7, 9, "", rfl, by decide, uwX7, Or.inl (ga_t1 169 (by decide +kernel) rfl), rfl⟩
theorem gfX7_34 : ga_FS RX7 34 7 7 true (.array .int) := ⟨RX7, TX7, 9, tyX7, "", rfl, by decide, uwX7, tyX7_ok, nmX7, Or.inl (ga_t1 169 (by decide +kernel) rfl), rfl, rfl, (fun z => ⟨rfl, (ga_t1 169 (by decide +kernel) rfl)⟩)⟩
theorem grX7_37 : ga_FR RX7 37 7 8 (.array .int) := ⟨RX7, TX7, 9, "", rfl, by decide, uwX7, Or.inl (ga_t1 170 (by decide +kernel) rfl), rfl⟩
theorem gfX7_37 : ga_FS RX7 37 7 8 true (.array .int) := ⟨RX7, TX7, 9, tyX7, "", rfl, by decide, uwX7, tyX7_ok, nmX7, Or.inl (ga_t1 170 (by decide +kernel) rfl), rfl, rfl, (fun z => ⟨rfl, (ga_t1 170 (by decide +kernel) rfl)⟩)⟩
theorem grX0_14 : ga_FR RX0 14 0 0 (.object "GraphCompare$Partition") := ⟨RX0, TX0, 5, "", rfl, by decide, uwX0, Or.inl (ga_t1 190 (by decide +kernel) rfl), rfl⟩
theorem gfX0_14 : ga_FS RX0 14 0 0 true (.object "GraphCompare$Partition") := ⟨RX0, TX0, 5, tyX0, "", rfl, by decide, uwX0, tyX0_ok, nmX0, Or.inl (ga_t1 190 (by decide +kernel) rfl), rfl, rfl, (fun z => ⟨rfl, (ga_t1 190 (by decide +kernel) rfl)⟩)⟩
theorem grX0_20 : ga_FR RX0 20 0 1 (.object "GraphCompare$Partition") := ⟨RX0, TX0, 5, "", rfl, by decide, uwX0, Or.inl (ga_t1 191 (by decide +kernel) rfl), rfl⟩
theorem gfX0_20 : ga_FS RX0 20 0 1 true (.object "GraphCompare$Partition") := ⟨RX0, TX0, 5, tyX0, "", rfl, by decide, uwX0, tyX0_ok, nmX0, Or.inl (ga_t1 191 (by decide +kernel) rfl), rfl, rfl, (fun z => ⟨rfl, (ga_t1 191 (by decide +kernel) rfl)⟩)⟩
theorem grX0_23 : ga_FR RX0 23 0 2 .int := ⟨RX0, TX0, 5, "", rfl, by decide, uwX0, Or.inl (ga_t1 192 (by decide +kernel) rfl), rfl⟩
theorem gfX0_23 : ga_FS RX0 23 0 2 false .int := ⟨RX0, TX0, 5, tyX0, "", rfl, by decide, uwX0, tyX0_ok, nmX0, Or.inl (ga_t1 192 (by decide +kernel) rfl), rfl, rfl, (fun z => by cases z)⟩
theorem grX10_185 : ga_FR RX10 185 0 2 .int := ⟨RX0, TX0, 5, "GraphCompare", rfl, by decide, uwX0, Or.inr (ga_t1 193 (by decide +kernel) rfl), rfl⟩
theorem gfX10_185 : ga_FS RX10 185 0 2 false .int := ⟨RX0, TX0, 5, tyX0, "GraphCompare", rfl, by decide, uwX0, tyX0_ok, nmX0, Or.inr (ga_t1 193 (by decide +kernel) rfl), rfl, rfl, (fun z => by cases z)⟩
theorem grX0_27 : ga_FR RX0 27 0 3 (.array .int) := ⟨RX0, TX0, 5, "", rfl, by decide, uwX0, Or.inl (ga_t1 194 (by decide +kernel) rfl), rfl⟩
theorem gfX0_27 : ga_FS RX0 27 0 3 true (.array .int) := ⟨RX0, TX0, 5, tyX0, "", rfl, by decide, uwX0, tyX0_ok, nmX0, Or.inl (ga_t1 194 (by decide +kernel) rfl), rfl, rfl, (fun z => ⟨rfl, (ga_t1 194 (by decide +kernel) rfl)⟩)⟩
theorem grX2_86 : ga_FR RX2 86 0 3 (.array .int) := ⟨RX0, TX0, 5, "GraphCompare", rfl, by decide, uwX0, Or.inr (ga_t1 195 (by decide +kernel) rfl), rfl⟩
theorem grX0_31 : ga_FR RX0 31 0 4 (.array .int) := ⟨RX0, TX0, 5, "", rfl, by decide, uwX0, Or.inl (ga_t1 196 (by decide +kernel) rfl), rfl⟩
theorem gfX0_31 : ga_FS RX0 31 0 4 true (.array .int) := ⟨RX0, TX0, 5, tyX0, "", rfl, by decide, uwX0, tyX0_ok, nmX0, Or.inl (ga_t1 196 (by decide +kernel) rfl), rfl, rfl, (fun z => ⟨rfl, (ga_t1 196 (by decide +kernel) rfl)⟩)⟩
theorem grX2_89 : ga_FR RX2 89 0 4 (.array .int) := ⟨RX0, TX0, 5, "GraphCompare", rfl, by decide, uwX0, Or.inr (ga_t1 197 (by decide +kernel) rfl), rfl⟩
theorem nsX10_30 : ga_NS RX10 30 8 11 [Vi 0, Vn, Vn, Vn, Vn, Vn, Vn, Vn, Vn, Vn, Vn] := ⟨RX8, TX8, tyX8, rfl, uwX8, tyX8_ok, (ga_t1 209 (by decide +kernel) rfl), (ga_t1 210 (by decide +kernel) rfl), (ga_t1 9 (by decide +kernel) rfl), (by intro v hv; simp only [List.mem_cons, List.not_mem_nil, or_false] at hv; rcases hv with rfl | rfl | rfl | rfl | rfl | rfl | rfl | rfl | rfl | rfl | rfl <;> first | exact ga_in0 | exact ga_inL0 | trivial), fun ad j hj => by
  rcases Nat.lt_or_ge j 1 with q | q
  · obtain rfl : j = 0 := by omega
    rfl
  rcases Nat.lt_or_ge j 2 with q | q
  · obtain rfl : j = 1 := by omega
    rfl
  rcases Nat.lt_or_ge j 3 with q | q
  · obtain rfl : j = 2 := by omega
    rfl
  rcases Nat.lt_or_ge j 4 with q | q
  · obtain rfl : j = 3 := by omega
    rfl
  rcases Nat.lt_or_ge j 5 with q | q
  · obtain rfl : j = 4 := by omega
    rfl
  rcases Nat.lt_or_ge j 6 with q | q
  · obtain rfl : j = 5 := by omega
    rfl
  rcases Nat.lt_or_ge j 7 with q | q
  · obtain rfl : j = 6 := by omega
    rfl
  rcases Nat.lt_or_ge j 8 with q | q
  · obtain rfl : j = 7 := by omega
    rfl
  rcases Nat.lt_or_ge j 9 with q | q
  · obtain rfl : j = 8 := by omega
    rfl
  rcases Nat.lt_or_ge j 10 with q | q
  · obtain rfl : j = 9 := by omega
    rfl
  rcases Nat.lt_or_ge j 11 with q | q
  · obtain rfl : j = 10 := by omega
    rfl
  omega⟩
theorem lkX10_32 : Cond.methodLinkNest RX10 32 yX8_init "GraphCompare" ∈ ga_big := (ga_t1 211 (by decide +kernel) rfl)
theorem lkX8_3 : Cond.methodLink RX8 3 Lib.objectInit ∈ ga_big := (ga_t1 214 (by decide +kernel) rfl)
theorem nsX8_26 : ga_NS RX8 26 6 4 [Vn, Vi 0, Vn, Vn] := ⟨RX6, TX6, tyX6, rfl, uwX6, tyX6_ok, (ga_t1 215 (by decide +kernel) rfl), (ga_t1 216 (by decide +kernel) rfl), (ga_t1 10 (by decide +kernel) rfl), (by intro v hv; simp only [List.mem_cons, List.not_mem_nil, or_false] at hv; rcases hv with rfl | rfl | rfl | rfl <;> first | exact ga_in0 | exact ga_inL0 | trivial), fun ad j hj => by
  rcases Nat.lt_or_ge j 1 with q | q
  · obtain rfl : j = 0 := by omega
    rfl
  rcases Nat.lt_or_ge j 2 with q | q
  · obtain rfl : j = 1 := by omega
    rfl
  rcases Nat.lt_or_ge j 3 with q | q
  · obtain rfl : j = 2 := by omega
    rfl
  rcases Nat.lt_or_ge j 4 with q | q
  · obtain rfl : j = 3 := by omega
    rfl
  omega⟩
theorem lkX8_28 : Cond.methodLinkNest RX8 28 yX6_init "GraphCompare" ∈ ga_big := (ga_t1 217 (by decide +kernel) rfl)
theorem lkX6_3 : Cond.methodLink RX6 3 Lib.objectInit ∈ ga_big := (ga_t1 220 (by decide +kernel) rfl)
theorem grX6_9 : ga_FR RX6 9 6 0 (.array .int) := ⟨RX6, TX6, 4, "", rfl, by decide, uwX6, Or.inl (ga_t1 221 (by decide +kernel) rfl), rfl⟩
theorem gfX6_9 : ga_FS RX6 9 6 0 true (.array .int) := ⟨RX6, TX6, 4, tyX6, "", rfl, by decide, uwX6, tyX6_ok, nmX6, Or.inl (ga_t1 221 (by decide +kernel) rfl), rfl, rfl, (fun z => ⟨rfl, (ga_t1 221 (by decide +kernel) rfl)⟩)⟩
theorem grX8_101 : ga_FR RX8 101 6 0 (.array .int) := ⟨RX6, TX6, 4, "GraphCompare", rfl, by decide, uwX6, Or.inr (ga_t1 222 (by decide +kernel) rfl), rfl⟩
theorem grX6_15 : ga_FR RX6 15 6 1 .int := ⟨RX6, TX6, 4, "", rfl, by decide, uwX6, Or.inl (ga_t1 223 (by decide +kernel) rfl), rfl⟩
theorem gfX6_15 : ga_FS RX6 15 6 1 false .int := ⟨RX6, TX6, 4, tyX6, "", rfl, by decide, uwX6, tyX6_ok, nmX6, Or.inl (ga_t1 223 (by decide +kernel) rfl), rfl, rfl, (fun z => by cases z)⟩
theorem grX8_166 : ga_FR RX8 166 6 1 .int := ⟨RX6, TX6, 4, "GraphCompare", rfl, by decide, uwX6, Or.inr (ga_t1 224 (by decide +kernel) rfl), rfl⟩
theorem gfX8_166 : ga_FS RX8 166 6 1 false .int := ⟨RX6, TX6, 4, tyX6, "GraphCompare", rfl, by decide, uwX6, tyX6_ok, nmX6, Or.inr (ga_t1 224 (by decide +kernel) rfl), rfl, rfl, (fun z => by cases z)⟩
theorem grX6_19 : ga_FR RX6 19 6 2 (.array .int) := ⟨RX6, TX6, 4, "", rfl, by decide, uwX6, Or.inl (ga_t1 225 (by decide +kernel) rfl), rfl⟩
theorem gfX6_19 : ga_FS RX6 19 6 2 true (.array .int) := ⟨RX6, TX6, 4, tyX6, "", rfl, by decide, uwX6, tyX6_ok, nmX6, Or.inl (ga_t1 225 (by decide +kernel) rfl), rfl, rfl, (fun z => ⟨rfl, (ga_t1 225 (by decide +kernel) rfl)⟩)⟩
theorem grX8_175 : ga_FR RX8 175 6 2 (.array .int) := ⟨RX6, TX6, 4, "GraphCompare", rfl, by decide, uwX6, Or.inr (ga_t1 226 (by decide +kernel) rfl), rfl⟩
theorem grX6_22 : ga_FR RX6 22 6 3 (.array .int) := ⟨RX6, TX6, 4, "", rfl, by decide, uwX6, Or.inl (ga_t1 227 (by decide +kernel) rfl), rfl⟩
theorem gfX6_22 : ga_FS RX6 22 6 3 true (.array .int) := ⟨RX6, TX6, 4, tyX6, "", rfl, by decide, uwX6, tyX6_ok, nmX6, Or.inl (ga_t1 227 (by decide +kernel) rfl), rfl, rfl, (fun z => ⟨rfl, (ga_t1 227 (by decide +kernel) rfl)⟩)⟩
theorem grX8_169 : ga_FR RX8 169 6 3 (.array .int) := ⟨RX6, TX6, 4, "GraphCompare", rfl, by decide, uwX6, Or.inr (ga_t1 228 (by decide +kernel) rfl), rfl⟩
theorem grX8_9 : ga_FR RX8 9 8 0 .int := ⟨RX8, TX8, 11, "", rfl, by decide, uwX8, Or.inl (ga_t1 238 (by decide +kernel) rfl), rfl⟩
theorem gfX8_9 : ga_FS RX8 9 8 0 false .int := ⟨RX8, TX8, 11, tyX8, "", rfl, by decide, uwX8, tyX8_ok, nmX8, Or.inl (ga_t1 238 (by decide +kernel) rfl), rfl, rfl, (fun z => by cases z)⟩
theorem grX8_15 : ga_FR RX8 15 8 1 (.array .int) := ⟨RX8, TX8, 11, "", rfl, by decide, uwX8, Or.inl (ga_t1 239 (by decide +kernel) rfl), rfl⟩
theorem gfX8_15 : ga_FS RX8 15 8 1 true (.array .int) := ⟨RX8, TX8, 11, tyX8, "", rfl, by decide, uwX8, tyX8_ok, nmX8, Or.inl (ga_t1 239 (by decide +kernel) rfl), rfl, rfl, (fun z => ⟨rfl, (ga_t1 239 (by decide +kernel) rfl)⟩)⟩
theorem grX8_19 : ga_FR RX8 19 8 2 (.array .int) := ⟨RX8, TX8, 11, "", rfl, by decide, uwX8, Or.inl (ga_t2 0 (by decide +kernel) rfl), rfl⟩
theorem gfX8_19 : ga_FS RX8 19 8 2 true (.array .int) := ⟨RX8, TX8, 11, tyX8, "", rfl, by decide, uwX8, tyX8_ok, nmX8, Or.inl (ga_t2 0 (by decide +kernel) rfl), rfl, rfl, (fun z => ⟨rfl, (ga_t2 0 (by decide +kernel) rfl)⟩)⟩
theorem grX8_22 : ga_FR RX8 22 8 3 (.array .boolean) := ⟨RX8, TX8, 11, "", rfl, by decide, uwX8, Or.inl (ga_t2 1 (by decide +kernel) rfl), rfl⟩
theorem gfX8_22 : ga_FS RX8 22 8 3 true (.array .boolean) := ⟨RX8, TX8, 11, tyX8, "", rfl, by decide, uwX8, tyX8_ok, nmX8, Or.inl (ga_t2 1 (by decide +kernel) rfl), rfl, rfl, (fun z => ⟨rfl, (ga_t2 1 (by decide +kernel) rfl)⟩)⟩
theorem grX8_29 : ga_FR RX8 29 8 4 (.object "GraphCompare$NetSorts") := ⟨RX8, TX8, 11, "", rfl, by decide, uwX8, Or.inl (ga_t2 2 (by decide +kernel) rfl), rfl⟩
theorem gfX8_29 : ga_FS RX8 29 8 4 true (.object "GraphCompare$NetSorts") := ⟨RX8, TX8, 11, tyX8, "", rfl, by decide, uwX8, tyX8_ok, nmX8, Or.inl (ga_t2 2 (by decide +kernel) rfl), rfl, rfl, (fun z => ⟨rfl, (ga_t2 2 (by decide +kernel) rfl)⟩)⟩
theorem grX8_33 : ga_FR RX8 33 8 5 (.object "GraphCompare$NetSorts") := ⟨RX8, TX8, 11, "", rfl, by decide, uwX8, Or.inl (ga_t2 3 (by decide +kernel) rfl), rfl⟩
theorem gfX8_33 : ga_FS RX8 33 8 5 true (.object "GraphCompare$NetSorts") := ⟨RX8, TX8, 11, tyX8, "", rfl, by decide, uwX8, tyX8_ok, nmX8, Or.inl (ga_t2 3 (by decide +kernel) rfl), rfl, rfl, (fun z => ⟨rfl, (ga_t2 3 (by decide +kernel) rfl)⟩)⟩
theorem grX8_36 : ga_FR RX8 36 8 6 (.array .int) := ⟨RX8, TX8, 11, "", rfl, by decide, uwX8, Or.inl (ga_t2 4 (by decide +kernel) rfl), rfl⟩
theorem gfX8_36 : ga_FS RX8 36 8 6 true (.array .int) := ⟨RX8, TX8, 11, tyX8, "", rfl, by decide, uwX8, tyX8_ok, nmX8, Or.inl (ga_t2 4 (by decide +kernel) rfl), rfl, rfl, (fun z => ⟨rfl, (ga_t2 4 (by decide +kernel) rfl)⟩)⟩
theorem grX8_39 : ga_FR RX8 39 8 7 (.array .int) := ⟨RX8, TX8, 11, "", rfl, by decide, uwX8, Or.inl (ga_t2 5 (by decide +kernel) rfl), rfl⟩
theorem gfX8_39 : ga_FS RX8 39 8 7 true (.array .int) := ⟨RX8, TX8, 11, tyX8, "", rfl, by decide, uwX8, tyX8_ok, nmX8, Or.inl (ga_t2 5 (by decide +kernel) rfl), rfl, rfl, (fun z => ⟨rfl, (ga_t2 5 (by decide +kernel) rfl)⟩)⟩
theorem grX8_42 : ga_FR RX8 42 8 8 (.array .int) := ⟨RX8, TX8, 11, "", rfl, by decide, uwX8, Or.inl (ga_t2 6 (by decide +kernel) rfl), rfl⟩
theorem gfX8_42 : ga_FS RX8 42 8 8 true (.array .int) := ⟨RX8, TX8, 11, tyX8, "", rfl, by decide, uwX8, tyX8_ok, nmX8, Or.inl (ga_t2 6 (by decide +kernel) rfl), rfl, rfl, (fun z => ⟨rfl, (ga_t2 6 (by decide +kernel) rfl)⟩)⟩
theorem grX8_45 : ga_FR RX8 45 8 9 (.array .int) := ⟨RX8, TX8, 11, "", rfl, by decide, uwX8, Or.inl (ga_t2 7 (by decide +kernel) rfl), rfl⟩
theorem gfX8_45 : ga_FS RX8 45 8 9 true (.array .int) := ⟨RX8, TX8, 11, tyX8, "", rfl, by decide, uwX8, tyX8_ok, nmX8, Or.inl (ga_t2 7 (by decide +kernel) rfl), rfl, rfl, (fun z => ⟨rfl, (ga_t2 7 (by decide +kernel) rfl)⟩)⟩
theorem grX8_48 : ga_FR RX8 48 8 10 (.array .int) := ⟨RX8, TX8, 11, "", rfl, by decide, uwX8, Or.inl (ga_t2 8 (by decide +kernel) rfl), rfl⟩
theorem gfX8_48 : ga_FS RX8 48 8 10 true (.array .int) := ⟨RX8, TX8, 11, tyX8, "", rfl, by decide, uwX8, tyX8_ok, nmX8, Or.inl (ga_t2 8 (by decide +kernel) rfl), rfl, rfl, (fun z => ⟨rfl, (ga_t2 8 (by decide +kernel) rfl)⟩)⟩
theorem nsX10_37 : ga_NS RX10 37 5 5 [Vi 0, Vn, Vn, Vn, Vn] := ⟨RX5, TX5, tyX5, rfl, uwX5, tyX5_ok, (ga_t2 32 (by decide +kernel) rfl), (ga_t2 33 (by decide +kernel) rfl), (ga_t1 11 (by decide +kernel) rfl), (by intro v hv; simp only [List.mem_cons, List.not_mem_nil, or_false] at hv; rcases hv with rfl | rfl | rfl | rfl | rfl <;> first | exact ga_in0 | exact ga_inL0 | trivial), fun ad j hj => by
  rcases Nat.lt_or_ge j 1 with q | q
  · obtain rfl : j = 0 := by omega
    rfl
  rcases Nat.lt_or_ge j 2 with q | q
  · obtain rfl : j = 1 := by omega
    rfl
  rcases Nat.lt_or_ge j 3 with q | q
  · obtain rfl : j = 2 := by omega
    rfl
  rcases Nat.lt_or_ge j 4 with q | q
  · obtain rfl : j = 3 := by omega
    rfl
  rcases Nat.lt_or_ge j 5 with q | q
  · obtain rfl : j = 4 := by omega
    rfl
  omega⟩
theorem lkX10_39 : Cond.methodLink RX10 39 yX5_init ∈ ga_big := (ga_t2 34 (by decide +kernel) rfl)
theorem lkX5_3 : Cond.methodLink RX5 3 Lib.objectInit ∈ ga_big := (ga_t2 37 (by decide +kernel) rfl)
theorem lkX5_28 : Cond.methodLink RX5 28 yX5_forget ∈ ga_big := (ga_t2 38 (by decide +kernel) rfl)
theorem lkX5_31 : Cond.methodLink RX5 31 yJ7_fill_53178 ∈ ga_big := (ga_t2 42 (by decide +kernel) rfl)
theorem grX5_9 : ga_FR RX5 9 5 0 .boolean := ⟨RX5, TX5, 5, "", rfl, by decide, uwX5, Or.inl (ga_t2 43 (by decide +kernel) rfl), rfl⟩
theorem gfX5_9 : ga_FS RX5 9 5 0 false .boolean := ⟨RX5, TX5, 5, tyX5, "", rfl, by decide, uwX5, tyX5_ok, nmX5, Or.inl (ga_t2 43 (by decide +kernel) rfl), rfl, rfl, (fun z => by cases z)⟩
theorem grX8_67 : ga_FR RX8 67 5 0 .boolean := ⟨RX5, TX5, 5, "GraphCompare", rfl, by decide, uwX5, Or.inr (ga_t2 44 (by decide +kernel) rfl), rfl⟩
theorem gfX8_67 : ga_FS RX8 67 5 0 false .boolean := ⟨RX5, TX5, 5, tyX5, "GraphCompare", rfl, by decide, uwX5, tyX5_ok, nmX5, Or.inr (ga_t2 44 (by decide +kernel) rfl), rfl, rfl, (fun z => by cases z)⟩
theorem grX5_15 : ga_FR RX5 15 5 1 (.array .int) := ⟨RX5, TX5, 5, "", rfl, by decide, uwX5, Or.inl (ga_t2 45 (by decide +kernel) rfl), rfl⟩
theorem gfX5_15 : ga_FS RX5 15 5 1 true (.array .int) := ⟨RX5, TX5, 5, tyX5, "", rfl, by decide, uwX5, tyX5_ok, nmX5, Or.inl (ga_t2 45 (by decide +kernel) rfl), rfl, rfl, (fun z => ⟨rfl, (ga_t2 45 (by decide +kernel) rfl)⟩)⟩
theorem grX10_204 : ga_FR RX10 204 5 1 (.array .int) := ⟨RX5, TX5, 5, "GraphCompare", rfl, by decide, uwX5, Or.inr (ga_t2 46 (by decide +kernel) rfl), rfl⟩
theorem grX5_19 : ga_FR RX5 19 5 2 (.array .int) := ⟨RX5, TX5, 5, "", rfl, by decide, uwX5, Or.inl (ga_t2 47 (by decide +kernel) rfl), rfl⟩
theorem gfX5_19 : ga_FS RX5 19 5 2 true (.array .int) := ⟨RX5, TX5, 5, tyX5, "", rfl, by decide, uwX5, tyX5_ok, nmX5, Or.inl (ga_t2 47 (by decide +kernel) rfl), rfl, rfl, (fun z => ⟨rfl, (ga_t2 47 (by decide +kernel) rfl)⟩)⟩
theorem grX10_208 : ga_FR RX10 208 5 2 (.array .int) := ⟨RX5, TX5, 5, "GraphCompare", rfl, by decide, uwX5, Or.inr (ga_t2 48 (by decide +kernel) rfl), rfl⟩
theorem grX5_22 : ga_FR RX5 22 5 3 (.array .int) := ⟨RX5, TX5, 5, "", rfl, by decide, uwX5, Or.inl (ga_t2 49 (by decide +kernel) rfl), rfl⟩
theorem gfX5_22 : ga_FS RX5 22 5 3 true (.array .int) := ⟨RX5, TX5, 5, tyX5, "", rfl, by decide, uwX5, tyX5_ok, nmX5, Or.inl (ga_t2 49 (by decide +kernel) rfl), rfl, rfl, (fun z => ⟨rfl, (ga_t2 49 (by decide +kernel) rfl)⟩)⟩
theorem grX10_211 : ga_FR RX10 211 5 3 (.array .int) := ⟨RX5, TX5, 5, "GraphCompare", rfl, by decide, uwX5, Or.inr (ga_t2 50 (by decide +kernel) rfl), rfl⟩
theorem grX5_25 : ga_FR RX5 25 5 4 (.array .int) := ⟨RX5, TX5, 5, "", rfl, by decide, uwX5, Or.inl (ga_t2 51 (by decide +kernel) rfl), rfl⟩
theorem gfX5_25 : ga_FS RX5 25 5 4 true (.array .int) := ⟨RX5, TX5, 5, tyX5, "", rfl, by decide, uwX5, tyX5_ok, nmX5, Or.inl (ga_t2 51 (by decide +kernel) rfl), rfl, rfl, (fun z => ⟨rfl, (ga_t2 51 (by decide +kernel) rfl)⟩)⟩
theorem grX8_98 : ga_FR RX8 98 5 4 (.array .int) := ⟨RX5, TX5, 5, "GraphCompare", rfl, by decide, uwX5, Or.inr (ga_t2 52 (by decide +kernel) rfl), rfl⟩
theorem nsX10_44 : ga_NS RX10 44 2 3 [Vi 0, Vn, Vn] := ⟨RX2, TX2, tyX2, rfl, uwX2, tyX2_ok, (ga_t2 64 (by decide +kernel) rfl), (ga_t2 65 (by decide +kernel) rfl), (ga_t1 12 (by decide +kernel) rfl), (by intro v hv; simp only [List.mem_cons, List.not_mem_nil, or_false] at hv; rcases hv with rfl | rfl | rfl <;> first | exact ga_in0 | exact ga_inL0 | trivial), fun ad j hj => by
  rcases Nat.lt_or_ge j 1 with q | q
  · obtain rfl : j = 0 := by omega
    rfl
  rcases Nat.lt_or_ge j 2 with q | q
  · obtain rfl : j = 1 := by omega
    rfl
  rcases Nat.lt_or_ge j 3 with q | q
  · obtain rfl : j = 2 := by omega
    rfl
  omega⟩
theorem lkX10_46 : Cond.methodLinkNest RX10 46 yX2_init "GraphCompare" ∈ ga_big := (ga_t2 66 (by decide +kernel) rfl)
theorem lkX2_3 : Cond.methodLink RX2 3 Lib.objectInit ∈ ga_big := (ga_t2 69 (by decide +kernel) rfl)
theorem grX2_9 : ga_FR RX2 9 2 0 .int := ⟨RX2, TX2, 3, "", rfl, by decide, uwX2, Or.inl (ga_t2 70 (by decide +kernel) rfl), rfl⟩
theorem gfX2_9 : ga_FS RX2 9 2 0 false .int := ⟨RX2, TX2, 3, tyX2, "", rfl, by decide, uwX2, tyX2_ok, nmX2, Or.inl (ga_t2 70 (by decide +kernel) rfl), rfl, rfl, (fun z => by cases z)⟩
theorem grX10_214 : ga_FR RX10 214 2 0 .int := ⟨RX2, TX2, 3, "GraphCompare", rfl, by decide, uwX2, Or.inr (ga_t2 71 (by decide +kernel) rfl), rfl⟩
theorem gfX10_214 : ga_FS RX10 214 2 0 false .int := ⟨RX2, TX2, 3, tyX2, "GraphCompare", rfl, by decide, uwX2, tyX2_ok, nmX2, Or.inr (ga_t2 71 (by decide +kernel) rfl), rfl, rfl, (fun z => by cases z)⟩
theorem grX2_15 : ga_FR RX2 15 2 1 (.array .int) := ⟨RX2, TX2, 3, "", rfl, by decide, uwX2, Or.inl (ga_t2 72 (by decide +kernel) rfl), rfl⟩
theorem gfX2_15 : ga_FS RX2 15 2 1 true (.array .int) := ⟨RX2, TX2, 3, tyX2, "", rfl, by decide, uwX2, tyX2_ok, nmX2, Or.inl (ga_t2 72 (by decide +kernel) rfl), rfl, rfl, (fun z => ⟨rfl, (ga_t2 72 (by decide +kernel) rfl)⟩)⟩
theorem grX10_221 : ga_FR RX10 221 2 1 (.array .int) := ⟨RX2, TX2, 3, "GraphCompare", rfl, by decide, uwX2, Or.inr (ga_t2 73 (by decide +kernel) rfl), rfl⟩
theorem grX2_19 : ga_FR RX2 19 2 2 (.array .boolean) := ⟨RX2, TX2, 3, "", rfl, by decide, uwX2, Or.inl (ga_t2 74 (by decide +kernel) rfl), rfl⟩
theorem gfX2_19 : ga_FS RX2 19 2 2 true (.array .boolean) := ⟨RX2, TX2, 3, tyX2, "", rfl, by decide, uwX2, tyX2_ok, nmX2, Or.inl (ga_t2 74 (by decide +kernel) rfl), rfl, rfl, (fun z => ⟨rfl, (ga_t2 74 (by decide +kernel) rfl)⟩)⟩
theorem grX10_10 : ga_FR RX10 10 10 0 (.object "GraphCompare$Designs") := ⟨RX10, TX10, 8, "", rfl, by decide, uwX10, Or.inl (ga_t2 82 (by decide +kernel) rfl), rfl⟩
theorem gfX10_10 : ga_FS RX10 10 10 0 true (.object "GraphCompare$Designs") := ⟨RX10, TX10, 8, tyX10, "", rfl, by decide, uwX10, tyX10_ok, nmX10, Or.inl (ga_t2 82 (by decide +kernel) rfl), rfl, rfl, (fun z => ⟨rfl, (ga_t2 82 (by decide +kernel) rfl)⟩)⟩
theorem grX10_19 : ga_FR RX10 19 10 1 (.object "GraphCompare$Joining") := ⟨RX10, TX10, 8, "", rfl, by decide, uwX10, Or.inl (ga_t2 83 (by decide +kernel) rfl), rfl⟩
theorem gfX10_19 : ga_FS RX10 19 10 1 true (.object "GraphCompare$Joining") := ⟨RX10, TX10, 8, tyX10, "", rfl, by decide, uwX10, tyX10_ok, nmX10, Or.inl (ga_t2 83 (by decide +kernel) rfl), rfl, rfl, (fun z => ⟨rfl, (ga_t2 83 (by decide +kernel) rfl)⟩)⟩
theorem grX10_26 : ga_FR RX10 26 10 2 (.object "GraphCompare$Classes") := ⟨RX10, TX10, 8, "", rfl, by decide, uwX10, Or.inl (ga_t2 84 (by decide +kernel) rfl), rfl⟩
theorem gfX10_26 : ga_FS RX10 26 10 2 true (.object "GraphCompare$Classes") := ⟨RX10, TX10, 8, tyX10, "", rfl, by decide, uwX10, tyX10_ok, nmX10, Or.inl (ga_t2 84 (by decide +kernel) rfl), rfl, rfl, (fun z => ⟨rfl, (ga_t2 84 (by decide +kernel) rfl)⟩)⟩
theorem grX10_33 : ga_FR RX10 33 10 3 (.object "GraphCompare$Search") := ⟨RX10, TX10, 8, "", rfl, by decide, uwX10, Or.inl (ga_t2 85 (by decide +kernel) rfl), rfl⟩
theorem gfX10_33 : ga_FS RX10 33 10 3 true (.object "GraphCompare$Search") := ⟨RX10, TX10, 8, tyX10, "", rfl, by decide, uwX10, tyX10_ok, nmX10, Or.inl (ga_t2 85 (by decide +kernel) rfl), rfl, rfl, (fun z => ⟨rfl, (ga_t2 85 (by decide +kernel) rfl)⟩)⟩
theorem grX10_40 : ga_FR RX10 40 10 4 (.object "GraphCompare$Match") := ⟨RX10, TX10, 8, "", rfl, by decide, uwX10, Or.inl (ga_t2 86 (by decide +kernel) rfl), rfl⟩
theorem gfX10_40 : ga_FS RX10 40 10 4 true (.object "GraphCompare$Match") := ⟨RX10, TX10, 8, tyX10, "", rfl, by decide, uwX10, tyX10_ok, nmX10, Or.inl (ga_t2 86 (by decide +kernel) rfl), rfl, rfl, (fun z => ⟨rfl, (ga_t2 86 (by decide +kernel) rfl)⟩)⟩
theorem grX10_47 : ga_FR RX10 47 10 5 (.object "GraphCompare$Differences") := ⟨RX10, TX10, 8, "", rfl, by decide, uwX10, Or.inl (ga_t2 87 (by decide +kernel) rfl), rfl⟩
theorem gfX10_47 : ga_FS RX10 47 10 5 true (.object "GraphCompare$Differences") := ⟨RX10, TX10, 8, tyX10, "", rfl, by decide, uwX10, tyX10_ok, nmX10, Or.inl (ga_t2 87 (by decide +kernel) rfl), rfl, rfl, (fun z => ⟨rfl, (ga_t2 87 (by decide +kernel) rfl)⟩)⟩
theorem grX10_51 : ga_FR RX10 51 10 6 .int := ⟨RX10, TX10, 8, "", rfl, by decide, uwX10, Or.inl (ga_t2 88 (by decide +kernel) rfl), rfl⟩
theorem gfX10_51 : ga_FS RX10 51 10 6 false .int := ⟨RX10, TX10, 8, tyX10, "", rfl, by decide, uwX10, tyX10_ok, nmX10, Or.inl (ga_t2 88 (by decide +kernel) rfl), rfl, rfl, (fun z => by cases z)⟩
theorem grX10_55 : ga_FR RX10 55 10 7 .int := ⟨RX10, TX10, 8, "", rfl, by decide, uwX10, Or.inl (ga_t2 89 (by decide +kernel) rfl), rfl⟩
theorem gfX10_55 : ga_FS RX10 55 10 7 false .int := ⟨RX10, TX10, 8, tyX10, "", rfl, by decide, uwX10, tyX10_ok, nmX10, Or.inl (ga_t2 89 (by decide +kernel) rfl), rfl, rfl, (fun z => by cases z)⟩
theorem lkL_109 : Cond.methodLink RL 109 yX10_rounds ∈ ga_big := (ga_t2 107 (by decide +kernel) rfl)
theorem lkL_113 : Cond.methodLink RL 113 yX10_tried ∈ ga_big := (ga_t2 111 (by decide +kernel) rfl)
theorem lkL_117 : Cond.methodLink RL 117 yX10_tested ∈ ga_big := (ga_t2 115 (by decide +kernel) rfl)
theorem lkX10_170 : Cond.methodLink RX10 170 yX1_markUsedNets ∈ ga_big := (ga_t2 119 (by decide +kernel) rfl)
theorem lkX1_28 : Cond.methodLink RX1 28 yX9_markUsedNets ∈ ga_big := (ga_t2 123 (by decide +kernel) rfl)
theorem lkX9_49 : Cond.methodLink RX9 49 yX9_isPort ∈ ga_big := (ga_t2 127 (by decide +kernel) rfl)
theorem lkX9_45 : Cond.methodLink RX9 45 yX9_netOf ∈ ga_big := (ga_t2 131 (by decide +kernel) rfl)
theorem lkX10_224 : Cond.methodLink RX10 224 yX5_isMatchNow ∈ ga_big := (ga_t2 135 (by decide +kernel) rfl)
theorem lkX5_46 : Cond.methodLink RX5 46 yX5_pairsPresent ∈ ga_big := (ga_t2 139 (by decide +kernel) rfl)
theorem lkX5_50 : Cond.methodLink RX5 50 yX5_pairsUsed ∈ ga_big := (ga_t2 142 (by decide +kernel) rfl)
theorem lkX5_53 : Cond.methodLink RX5 53 yX5_allPairsAgree ∈ ga_big := (ga_t2 145 (by decide +kernel) rfl)
theorem lkX5_76 : Cond.methodLink RX5 76 yX5_pairAgrees ∈ ga_big := (ga_t2 149 (by decide +kernel) rfl)
theorem lkX5_91 : Cond.methodLink RX5 91 yX4_sizesAgree ∈ ga_big := (ga_t2 153 (by decide +kernel) rfl)
theorem lkX5_97 : Cond.methodLink RX5 97 yX4_groupOf ∈ ga_big := (ga_t2 157 (by decide +kernel) rfl)
theorem lkX5_101 : Cond.methodLink RX5 101 yX9_netOf ∈ ga_big := (ga_t2 161 (by decide +kernel) rfl)
theorem lkX5_104 : Cond.methodLink RX5 104 yX4_pinsOn ∈ ga_big := (ga_t2 162 (by decide +kernel) rfl)
theorem lkX4_28 : Cond.methodLink RX4 28 yX9_netOf ∈ ga_big := (ga_t2 166 (by decide +kernel) rfl)
theorem lkX4_19 : Cond.methodLink RX4 19 yX4_groupOf ∈ ga_big := (ga_t2 167 (by decide +kernel) rfl)
theorem lkL_59 : Cond.methodLink RL 59 yL_net ∈ ga_big := (ga_t2 168 (by decide +kernel) rfl)
theorem lkL_7 : Cond.methodLink RL 7 yX10_net ∈ ga_big := (ga_t2 174 (by decide +kernel) rfl)
theorem lkX10_58 : Cond.methodLink RX10 58 yX10_sideAt ∈ ga_big := (ga_t2 178 (by decide +kernel) rfl)
theorem lkX10_230 : Cond.methodLink RX10 230 yX1_sideOf ∈ ga_big := (ga_t3 10 (by decide +kernel) rfl)
theorem lkX10_79 : Cond.methodLink RX10 79 yX9_addNet ∈ ga_big := (ga_t3 46 (by decide +kernel) rfl)
theorem lkL_71 : Cond.methodLink RL 71 yL_device ∈ ga_big := (ga_t3 50 (by decide +kernel) rfl)
theorem lkL_19 : Cond.methodLink RL 19 yX10_device ∈ ga_big := (ga_t3 53 (by decide +kernel) rfl)
theorem lkX10_83 : Cond.methodLink RX10 83 yX10_isKind ∈ ga_big := (ga_t3 57 (by decide +kernel) rfl)
theorem lkX10_101 : Cond.methodLink RX10 101 yX9_addDevice ∈ ga_big := (ga_t3 64 (by decide +kernel) rfl)
theorem lkL_75 : Cond.methodLink RL 75 yL_pin ∈ ga_big := (ga_t3 68 (by decide +kernel) rfl)
theorem lkL_23 : Cond.methodLink RL 23 yX10_pin ∈ ga_big := (ga_t3 71 (by decide +kernel) rfl)
theorem lkX10_105 : Cond.methodLink RX10 105 yX9_isDevice ∈ ga_big := (ga_t3 75 (by decide +kernel) rfl)
theorem lkX10_114 : Cond.methodLink RX10 114 yX10_isPin ∈ ga_big := (ga_t3 80 (by decide +kernel) rfl)
theorem lkX10_119 : Cond.methodLink RX10 119 yX9_isNet ∈ ga_big := (ga_t3 84 (by decide +kernel) rfl)
theorem lkX10_124 : Cond.methodLink RX10 124 yX9_connect ∈ ga_big := (ga_t3 89 (by decide +kernel) rfl)
theorem lkL_79 : Cond.methodLink RL 79 yL_swap ∈ ga_big := (ga_t3 93 (by decide +kernel) rfl)
theorem lkL_27 : Cond.methodLink RL 27 yX10_swap ∈ ga_big := (ga_t3 96 (by decide +kernel) rfl)
theorem lkX10_132 : Cond.methodLink RX10 132 yX4_uniteGroups ∈ ga_big := (ga_t3 100 (by decide +kernel) rfl)
theorem lkX4_23 : Cond.methodLink RX4 23 yJ9_min_7cf53 ∈ ga_big := (ga_t3 104 (by decide +kernel) rfl)
theorem lkL_83 : Cond.methodLink RL 83 yL_share ∈ ga_big := (ga_t3 107 (by decide +kernel) rfl)
theorem lkL_31 : Cond.methodLink RL 31 yX10_share ∈ ga_big := (ga_t3 110 (by decide +kernel) rfl)
theorem lkX10_139 : Cond.methodLink RX10 139 yX4_setShare ∈ ga_big := (ga_t3 115 (by decide +kernel) rfl)
theorem lkL_87 : Cond.methodLink RL 87 yL_port ∈ ga_big := (ga_t3 119 (by decide +kernel) rfl)
theorem lkL_35 : Cond.methodLink RL 35 yX10_port ∈ ga_big := (ga_t3 122 (by decide +kernel) rfl)
theorem lkX10_143 : Cond.methodLink RX10 143 yX9_portNamed ∈ ga_big := (ga_t3 126 (by decide +kernel) rfl)
theorem lkX10_149 : Cond.methodLink RX10 149 yX9_makePort ∈ ga_big := (ga_t3 131 (by decide +kernel) rfl)
theorem lkL_90 : Cond.methodLink RL 90 yL_join ∈ ga_big := (ga_t3 135 (by decide +kernel) rfl)
theorem lkL_38 : Cond.methodLink RL 38 yX10_join ∈ ga_big := (ga_t3 138 (by decide +kernel) rfl)
theorem lkX10_155 : Cond.methodLink RX10 155 yX3_joinAll ∈ ga_big := (ga_t3 143 (by decide +kernel) rfl)
theorem lkX3_15 : Cond.methodLink RX3 15 yX3_joinFirstPair ∈ ga_big := (ga_t3 147 (by decide +kernel) rfl)
theorem lkX3_19 : Cond.methodLink RX3 19 yX3_countPins ∈ ga_big := (ga_t3 151 (by decide +kernel) rfl)
theorem lkX3_37 : Cond.methodLink RX3 37 yJ7_fill_53178 ∈ ga_big := (ga_t3 155 (by decide +kernel) rfl)
theorem lkX3_47 : Cond.methodLink RX3 47 yX9_netOf ∈ ga_big := (ga_t3 156 (by decide +kernel) rfl)
theorem lkX3_29 : Cond.methodLink RX3 29 yX3_areOfOneKind ∈ ga_big := (ga_t3 157 (by decide +kernel) rfl)
theorem lkX3_33 : Cond.methodLink RX3 33 yX3_joinPair ∈ ga_big := (ga_t3 160 (by decide +kernel) rfl)
theorem lkX3_54 : Cond.methodLink RX3 54 yX3_joinParallel ∈ ga_big := (ga_t3 164 (by decide +kernel) rfl)
theorem lkX3_61 : Cond.methodLink RX3 61 yX4_groupOf ∈ ga_big := (ga_t3 167 (by decide +kernel) rfl)
theorem lkX3_66 : Cond.methodLink RX3 66 yX4_pinsOn ∈ ga_big := (ga_t3 168 (by decide +kernel) rfl)
theorem lkX3_58 : Cond.methodLink RX3 58 yX3_joinSeries ∈ ga_big := (ga_t3 169 (by decide +kernel) rfl)
theorem lkX3_74 : Cond.methodLink RX3 74 yX3_hasTwoEnds ∈ ga_big := (ga_t3 173 (by decide +kernel) rfl)
theorem lkX3_77 : Cond.methodLink RX3 77 yX3_netBetween ∈ ga_big := (ga_t3 176 (by decide +kernel) rfl)
theorem lkX3_89 : Cond.methodLink RX3 89 yX9_isPort ∈ ga_big := (ga_t3 180 (by decide +kernel) rfl)
theorem lkX3_81 : Cond.methodLink RX3 81 yX9_connect ∈ ga_big := (ga_t3 181 (by decide +kernel) rfl)
theorem lkX3_85 : Cond.methodLink RX3 85 yX3_sizeInSeries ∈ ga_big := (ga_t3 182 (by decide +kernel) rfl)
theorem lkX10_159 : Cond.methodLink RX10 159 yX9_presentCount ∈ ga_big := (ga_t3 185 (by decide +kernel) rfl)
theorem lkL_95 : Cond.methodLink RL 95 yL_run ∈ ga_big := (ga_t3 189 (by decide +kernel) rfl)
theorem lkL_41 : Cond.methodLink RL 41 yX10_run ∈ ga_big := (ga_t3 192 (by decide +kernel) rfl)
theorem lkX10_166 : Cond.methodLink RX10 166 yX5_forget ∈ ga_big := (ga_t3 198 (by decide +kernel) rfl)
theorem lkX10_169 : Cond.methodLink RX10 169 yX2_forget ∈ ga_big := (ga_t3 199 (by decide +kernel) rfl)
theorem lkX10_173 : Cond.methodLink RX10 173 yX0_divide ∈ ga_big := (ga_t3 203 (by decide +kernel) rfl)
theorem lkX0_34 : Cond.methodLink RX0 34 yX0_enterAll ∈ ga_big := (ga_t3 207 (by decide +kernel) rfl)
theorem lkX0_70 : Cond.methodLink RX0 70 yX7_empty ∈ ga_big := (ga_t3 211 (by decide +kernel) rfl)
theorem lkX7_40 : Cond.methodLink RX7 40 yJ7_fill_53178 ∈ ga_big := (ga_t3 215 (by decide +kernel) rfl)
theorem lkX7_46 : Cond.methodLink RX7 46 yX7_forgetCodes ∈ ga_big := (ga_t3 216 (by decide +kernel) rfl)
theorem lkX0_73 : Cond.methodLink RX0 73 yX1_sideOf ∈ ga_big := (ga_t3 220 (by decide +kernel) rfl)
theorem lkX0_80 : Cond.methodLink RX0 80 yX7_enter ∈ ga_big := (ga_t3 221 (by decide +kernel) rfl)
theorem lkX7_49 : Cond.methodLink RX7 49 yX7_addCode ∈ ga_big := (ga_t3 225 (by decide +kernel) rfl)
theorem lkX0_92 : Cond.methodLink RX0 92 yX7_split ∈ ga_big := (ga_t3 229 (by decide +kernel) rfl)
theorem lkX7_53 : Cond.methodLink RX7 53 yX7_partLike ∈ ga_big := (ga_t3 233 (by decide +kernel) rfl)
theorem lkX7_57 : Cond.methodLink RX7 57 yX7_haveSameCodes ∈ ga_big := (ga_t3 237 (by decide +kernel) rfl)
theorem lkX0_38 : Cond.methodLink RX0 38 yX0_makeRound ∈ ga_big := (ga_t4 1 (by decide +kernel) rfl)
theorem lkX0_96 : Cond.methodLink RX0 96 yX7_forgetCodes ∈ ga_big := (ga_t4 5 (by decide +kernel) rfl)
theorem lkX0_103 : Cond.methodLink RX0 103 yX0_addCodes ∈ ga_big := (ga_t4 6 (by decide +kernel) rfl)
theorem lkX0_107 : Cond.methodLink RX0 107 yX4_groupOf ∈ ga_big := (ga_t4 10 (by decide +kernel) rfl)
theorem lkX0_112 : Cond.methodLink RX0 112 yX9_netOf ∈ ga_big := (ga_t4 11 (by decide +kernel) rfl)
theorem lkX0_115 : Cond.methodLink RX0 115 yX7_addCode ∈ ga_big := (ga_t4 12 (by decide +kernel) rfl)
theorem lkX0_48 : Cond.methodLink RX0 48 yX0_countMembers ∈ ga_big := (ga_t4 13 (by decide +kernel) rfl)
theorem lkX0_118 : Cond.methodLink RX0 118 yJ7_fill_53178 ∈ ga_big := (ga_t4 17 (by decide +kernel) rfl)
theorem lkX0_67 : Cond.methodLink RX0 67 yX0_classOf ∈ ga_big := (ga_t4 18 (by decide +kernel) rfl)
theorem lkX10_177 : Cond.methodLink RX10 177 yX1_haveAsMuch ∈ ga_big := (ga_t4 22 (by decide +kernel) rfl)
theorem lkX1_31 : Cond.methodLink RX1 31 yX9_presentCount ∈ ga_big := (ga_t4 26 (by decide +kernel) rfl)
theorem lkX1_35 : Cond.methodLink RX1 35 yX9_usedCount ∈ ga_big := (ga_t4 27 (by decide +kernel) rfl)
theorem lkX1_38 : Cond.methodLink RX1 38 yX1_nextUnevenName ∈ ga_big := (ga_t4 31 (by decide +kernel) rfl)
theorem lkX1_42 : Cond.methodLink RX1 42 yX9_nextPortName ∈ ga_big := (ga_t4 35 (by decide +kernel) rfl)
theorem lkX10_181 : Cond.methodLink RX10 181 yX8_find ∈ ga_big := (ga_t4 39 (by decide +kernel) rfl)
theorem lkX8_51 : Cond.methodLink RX8 51 yX8_begin ∈ ga_big := (ga_t4 43 (by decide +kernel) rfl)
theorem lkX8_107 : Cond.methodLink RX8 107 yJ7_fill_53178 ∈ ga_big := (ga_t4 47 (by decide +kernel) rfl)
theorem lkX8_117 : Cond.methodLink RX8 117 yX8_sortByPorts ∈ ga_big := (ga_t4 48 (by decide +kernel) rfl)
theorem lkX8_121 : Cond.methodLink RX8 121 yX9_isPort ∈ ga_big := (ga_t4 51 (by decide +kernel) rfl)
theorem lkX8_128 : Cond.methodLink RX8 128 yX9_portNamed ∈ ga_big := (ga_t4 52 (by decide +kernel) rfl)
theorem lkX8_55 : Cond.methodLink RX8 55 yX8_nextCandidate ∈ ga_big := (ga_t4 53 (by decide +kernel) rfl)
theorem lkX8_132 : Cond.methodLink RX8 132 yX0_classOf ∈ ga_big := (ga_t4 57 (by decide +kernel) rfl)
theorem lkX8_59 : Cond.methodLink RX8 59 yX8_undo ∈ ga_big := (ga_t4 58 (by decide +kernel) rfl)
theorem lkX8_63 : Cond.methodLink RX8 63 yX8_pairUp ∈ ga_big := (ga_t4 62 (by decide +kernel) rfl)
theorem lkX8_149 : Cond.methodLink RX8 149 yX4_sizesAgree ∈ ga_big := (ga_t4 66 (by decide +kernel) rfl)
theorem lkX8_155 : Cond.methodLink RX8 155 yX6_lookAt ∈ ga_big := (ga_t4 67 (by decide +kernel) rfl)
theorem lkX6_25 : Cond.methodLink RX6 25 yX9_netOf ∈ ga_big := (ga_t4 71 (by decide +kernel) rfl)
theorem lkX6_34 : Cond.methodLink RX6 34 yX4_groupOf ∈ ga_big := (ga_t4 72 (by decide +kernel) rfl)
theorem lkX6_39 : Cond.methodLink RX6 39 yX6_placeOf ∈ ga_big := (ga_t4 73 (by decide +kernel) rfl)
theorem lkX8_159 : Cond.methodLink RX8 159 yX8_findMates ∈ ga_big := (ga_t4 77 (by decide +kernel) rfl)
theorem lkX8_172 : Cond.methodLink RX8 172 yX6_placeWith ∈ ga_big := (ga_t4 81 (by decide +kernel) rfl)
theorem lkX8_163 : Cond.methodLink RX8 163 yX8_changeSorts ∈ ga_big := (ga_t4 85 (by decide +kernel) rfl)
theorem lkX10_192 : Cond.methodLink RX10 192 yX0_alikeOnFirstSide ∈ ga_big := (ga_t4 89 (by decide +kernel) rfl)
theorem lkX10_196 : Cond.methodLink RX10 196 yX8_keep ∈ ga_big := (ga_t4 93 (by decide +kernel) rfl)
theorem lkX8_73 : Cond.methodLink RX8 73 yX5_pairDevices ∈ ga_big := (ga_t4 97 (by decide +kernel) rfl)
theorem lkX8_94 : Cond.methodLink RX8 94 yX8_keepNet ∈ ga_big := (ga_t4 101 (by decide +kernel) rfl)
theorem lkX8_104 : Cond.methodLink RX8 104 yX5_pairNets ∈ ga_big := (ga_t4 105 (by decide +kernel) rfl)
theorem lkX10_200 : Cond.methodLink RX10 200 yX2_list ∈ ga_big := (ga_t4 109 (by decide +kernel) rfl)
theorem lkX2_23 : Cond.methodLink RX2 23 yX2_listKinds ∈ ga_big := (ga_t4 113 (by decide +kernel) rfl)
theorem lkX2_47 : Cond.methodLink RX2 47 yX9_presentOfKind ∈ ga_big := (ga_t4 117 (by decide +kernel) rfl)
theorem lkX2_37 : Cond.methodLink RX2 37 yX2_add ∈ ga_big := (ga_t4 121 (by decide +kernel) rfl)
theorem lkX2_27 : Cond.methodLink RX2 27 yX2_listNets ∈ ga_big := (ga_t4 125 (by decide +kernel) rfl)
theorem lkX2_56 : Cond.methodLink RX2 56 yX9_usedCount ∈ ga_big := (ga_t4 129 (by decide +kernel) rfl)
theorem lkX2_30 : Cond.methodLink RX2 30 yX2_listNames ∈ ga_big := (ga_t4 130 (by decide +kernel) rfl)
theorem lkX2_60 : Cond.methodLink RX2 60 yX1_nextUnevenName ∈ ga_big := (ga_t4 134 (by decide +kernel) rfl)
theorem lkX2_63 : Cond.methodLink RX2 63 yX9_portNamed ∈ ga_big := (ga_t4 135 (by decide +kernel) rfl)
theorem lkX2_33 : Cond.methodLink RX2 33 yX2_listClasses ∈ ga_big := (ga_t4 136 (by decide +kernel) rfl)
theorem lkX2_66 : Cond.methodLink RX2 66 yX1_sideOf ∈ ga_big := (ga_t4 140 (by decide +kernel) rfl)
theorem lkX2_76 : Cond.methodLink RX2 76 yX0_classOf ∈ ga_big := (ga_t4 141 (by decide +kernel) rfl)
theorem lkX2_82 : Cond.methodLink RX2 82 yX2_listClass ∈ ga_big := (ga_t4 142 (by decide +kernel) rfl)
theorem lkL_99 : Cond.methodLink RL 99 yL_match ∈ ga_big := (ga_t4 146 (by decide +kernel) rfl)
theorem lkL_45 : Cond.methodLink RL 45 yX10_match ∈ ga_big := (ga_t4 149 (by decide +kernel) rfl)
theorem lkL_102 : Cond.methodLink RL 102 yL_netMatch ∈ ga_big := (ga_t4 153 (by decide +kernel) rfl)
theorem lkL_48 : Cond.methodLink RL 48 yX10_netMatch ∈ ga_big := (ga_t4 156 (by decide +kernel) rfl)
theorem lkL_106 : Cond.methodLink RL 106 yL_differs ∈ ga_big := (ga_t4 160 (by decide +kernel) rfl)
theorem lkL_52 : Cond.methodLink RL 52 yX10_differs ∈ ga_big := (ga_t4 163 (by decide +kernel) rfl)
theorem nsL_56 : ga_NS RL 56 11 32 [Vi 0, Vn, Vn, Vn, Vn, Vn, Vn, Vn, Vn, Vn, Vn, Vn, Vn, Vn, Vi 0, Vi 0, Vn, Vi 0, Vi 0, Vn, Vn, Vn, Vi 0, Vn, Vn, Vn, Vn, Vn, Vn, Vn, Vl 0, Vl 0] := ⟨RX11, TX11, tyX11, rfl, uwX11, tyX11_ok, (ga_t4 169 (by decide +kernel) rfl), (ga_t4 170 (by decide +kernel) rfl), (ga_t1 13 (by decide +kernel) rfl), (by intro v hv; simp only [List.mem_cons, List.not_mem_nil, or_false] at hv; rcases hv with rfl | rfl | rfl | rfl | rfl | rfl | rfl | rfl | rfl | rfl | rfl | rfl | rfl | rfl | rfl | rfl | rfl | rfl | rfl | rfl | rfl | rfl | rfl | rfl | rfl | rfl | rfl | rfl | rfl | rfl | rfl | rfl <;> first | exact ga_in0 | exact ga_inL0 | trivial), fun ad j hj => by
  rcases Nat.lt_or_ge j 1 with q | q
  · obtain rfl : j = 0 := by omega
    rfl
  rcases Nat.lt_or_ge j 2 with q | q
  · obtain rfl : j = 1 := by omega
    rfl
  rcases Nat.lt_or_ge j 3 with q | q
  · obtain rfl : j = 2 := by omega
    rfl
  rcases Nat.lt_or_ge j 4 with q | q
  · obtain rfl : j = 3 := by omega
    rfl
  rcases Nat.lt_or_ge j 5 with q | q
  · obtain rfl : j = 4 := by omega
    rfl
  rcases Nat.lt_or_ge j 6 with q | q
  · obtain rfl : j = 5 := by omega
    rfl
  rcases Nat.lt_or_ge j 7 with q | q
  · obtain rfl : j = 6 := by omega
    rfl
  rcases Nat.lt_or_ge j 8 with q | q
  · obtain rfl : j = 7 := by omega
    rfl
  rcases Nat.lt_or_ge j 9 with q | q
  · obtain rfl : j = 8 := by omega
    rfl
  rcases Nat.lt_or_ge j 10 with q | q
  · obtain rfl : j = 9 := by omega
    rfl
  rcases Nat.lt_or_ge j 11 with q | q
  · obtain rfl : j = 10 := by omega
    rfl
  rcases Nat.lt_or_ge j 12 with q | q
  · obtain rfl : j = 11 := by omega
    rfl
  rcases Nat.lt_or_ge j 13 with q | q
  · obtain rfl : j = 12 := by omega
    rfl
  rcases Nat.lt_or_ge j 14 with q | q
  · obtain rfl : j = 13 := by omega
    rfl
  rcases Nat.lt_or_ge j 15 with q | q
  · obtain rfl : j = 14 := by omega
    rfl
  rcases Nat.lt_or_ge j 16 with q | q
  · obtain rfl : j = 15 := by omega
    rfl
  rcases Nat.lt_or_ge j 17 with q | q
  · obtain rfl : j = 16 := by omega
    rfl
  rcases Nat.lt_or_ge j 18 with q | q
  · obtain rfl : j = 17 := by omega
    rfl
  rcases Nat.lt_or_ge j 19 with q | q
  · obtain rfl : j = 18 := by omega
    rfl
  rcases Nat.lt_or_ge j 20 with q | q
  · obtain rfl : j = 19 := by omega
    rfl
  rcases Nat.lt_or_ge j 21 with q | q
  · obtain rfl : j = 20 := by omega
    rfl
  rcases Nat.lt_or_ge j 22 with q | q
  · obtain rfl : j = 21 := by omega
    rfl
  rcases Nat.lt_or_ge j 23 with q | q
  · obtain rfl : j = 22 := by omega
    rfl
  rcases Nat.lt_or_ge j 24 with q | q
  · obtain rfl : j = 23 := by omega
    rfl
  rcases Nat.lt_or_ge j 25 with q | q
  · obtain rfl : j = 24 := by omega
    rfl
  rcases Nat.lt_or_ge j 26 with q | q
  · obtain rfl : j = 25 := by omega
    rfl
  rcases Nat.lt_or_ge j 27 with q | q
  · obtain rfl : j = 26 := by omega
    rfl
  rcases Nat.lt_or_ge j 28 with q | q
  · obtain rfl : j = 27 := by omega
    rfl
  rcases Nat.lt_or_ge j 29 with q | q
  · obtain rfl : j = 28 := by omega
    rfl
  rcases Nat.lt_or_ge j 30 with q | q
  · obtain rfl : j = 29 := by omega
    rfl
  rcases Nat.lt_or_ge j 31 with q | q
  · obtain rfl : j = 30 := by omega
    rfl
  rcases Nat.lt_or_ge j 32 with q | q
  · obtain rfl : j = 31 := by omega
    rfl
  omega⟩
theorem lkL_58 : Cond.methodLink RL 58 yX11_init ∈ ga_big := (ga_t4 171 (by decide +kernel) rfl)
theorem lkX11_1 : Cond.methodLink RX11 1 Lib.objectInit ∈ ga_big := (ga_t4 174 (by decide +kernel) rfl)
theorem grX11_84 : ga_FR RX11 84 11 0 .int := ⟨RX11, TX11, 32, "", rfl, by decide, uwX11, Or.inl (ga_t4 175 (by decide +kernel) rfl), rfl⟩
theorem gfX11_84 : ga_FS RX11 84 11 0 false .int := ⟨RX11, TX11, 32, tyX11, "", rfl, by decide, uwX11, tyX11_ok, nmX11, Or.inl (ga_t4 175 (by decide +kernel) rfl), rfl, rfl, (fun z => by cases z)⟩
theorem grX11_7 : ga_FR RX11 7 11 1 (.array .int) := ⟨RX11, TX11, 32, "", rfl, by decide, uwX11, Or.inl (ga_t4 176 (by decide +kernel) rfl), rfl⟩
theorem gfX11_7 : ga_FS RX11 7 11 1 true (.array .int) := ⟨RX11, TX11, 32, tyX11, "", rfl, by decide, uwX11, tyX11_ok, nmX11, Or.inl (ga_t4 176 (by decide +kernel) rfl), rfl, rfl, (fun z => ⟨rfl, (ga_t4 176 (by decide +kernel) rfl)⟩)⟩
theorem grX11_13 : ga_FR RX11 13 11 2 (.array .int) := ⟨RX11, TX11, 32, "", rfl, by decide, uwX11, Or.inl (ga_t4 177 (by decide +kernel) rfl), rfl⟩
theorem gfX11_13 : ga_FS RX11 13 11 2 true (.array .int) := ⟨RX11, TX11, 32, tyX11, "", rfl, by decide, uwX11, tyX11_ok, nmX11, Or.inl (ga_t4 177 (by decide +kernel) rfl), rfl, rfl, (fun z => ⟨rfl, (ga_t4 177 (by decide +kernel) rfl)⟩)⟩
theorem grX11_16 : ga_FR RX11 16 11 3 (.array .int) := ⟨RX11, TX11, 32, "", rfl, by decide, uwX11, Or.inl (ga_t4 178 (by decide +kernel) rfl), rfl⟩
theorem gfX11_16 : ga_FS RX11 16 11 3 true (.array .int) := ⟨RX11, TX11, 32, tyX11, "", rfl, by decide, uwX11, tyX11_ok, nmX11, Or.inl (ga_t4 178 (by decide +kernel) rfl), rfl, rfl, (fun z => ⟨rfl, (ga_t4 178 (by decide +kernel) rfl)⟩)⟩
theorem grX11_19 : ga_FR RX11 19 11 4 (.array .double) := ⟨RX11, TX11, 32, "", rfl, by decide, uwX11, Or.inl (ga_t4 179 (by decide +kernel) rfl), rfl⟩
theorem gfX11_19 : ga_FS RX11 19 11 4 true (.array .double) := ⟨RX11, TX11, 32, tyX11, "", rfl, by decide, uwX11, tyX11_ok, nmX11, Or.inl (ga_t4 179 (by decide +kernel) rfl), rfl, rfl, (fun z => ⟨rfl, (ga_t4 179 (by decide +kernel) rfl)⟩)⟩
theorem grX11_23 : ga_FR RX11 23 11 5 (.array .boolean) := ⟨RX11, TX11, 32, "", rfl, by decide, uwX11, Or.inl (ga_t4 180 (by decide +kernel) rfl), rfl⟩
theorem gfX11_23 : ga_FS RX11 23 11 5 true (.array .boolean) := ⟨RX11, TX11, 32, tyX11, "", rfl, by decide, uwX11, tyX11_ok, nmX11, Or.inl (ga_t4 180 (by decide +kernel) rfl), rfl, rfl, (fun z => ⟨rfl, (ga_t4 180 (by decide +kernel) rfl)⟩)⟩
theorem grX11_27 : ga_FR RX11 27 11 6 (.array .int) := ⟨RX11, TX11, 32, "", rfl, by decide, uwX11, Or.inl (ga_t4 181 (by decide +kernel) rfl), rfl⟩
theorem gfX11_27 : ga_FS RX11 27 11 6 true (.array .int) := ⟨RX11, TX11, 32, tyX11, "", rfl, by decide, uwX11, tyX11_ok, nmX11, Or.inl (ga_t4 181 (by decide +kernel) rfl), rfl, rfl, (fun z => ⟨rfl, (ga_t4 181 (by decide +kernel) rfl)⟩)⟩
theorem grX11_30 : ga_FR RX11 30 11 7 (.array .int) := ⟨RX11, TX11, 32, "", rfl, by decide, uwX11, Or.inl (ga_t4 182 (by decide +kernel) rfl), rfl⟩
theorem gfX11_30 : ga_FS RX11 30 11 7 true (.array .int) := ⟨RX11, TX11, 32, tyX11, "", rfl, by decide, uwX11, tyX11_ok, nmX11, Or.inl (ga_t4 182 (by decide +kernel) rfl), rfl, rfl, (fun z => ⟨rfl, (ga_t4 182 (by decide +kernel) rfl)⟩)⟩
theorem grX11_33 : ga_FR RX11 33 11 8 (.array .int) := ⟨RX11, TX11, 32, "", rfl, by decide, uwX11, Or.inl (ga_t4 183 (by decide +kernel) rfl), rfl⟩
theorem gfX11_33 : ga_FS RX11 33 11 8 true (.array .int) := ⟨RX11, TX11, 32, tyX11, "", rfl, by decide, uwX11, tyX11_ok, nmX11, Or.inl (ga_t4 183 (by decide +kernel) rfl), rfl, rfl, (fun z => ⟨rfl, (ga_t4 183 (by decide +kernel) rfl)⟩)⟩
theorem grX11_36 : ga_FR RX11 36 11 9 (.array .double) := ⟨RX11, TX11, 32, "", rfl, by decide, uwX11, Or.inl (ga_t4 184 (by decide +kernel) rfl), rfl⟩
theorem gfX11_36 : ga_FS RX11 36 11 9 true (.array .double) := ⟨RX11, TX11, 32, tyX11, "", rfl, by decide, uwX11, tyX11_ok, nmX11, Or.inl (ga_t4 184 (by decide +kernel) rfl), rfl, rfl, (fun z => ⟨rfl, (ga_t4 184 (by decide +kernel) rfl)⟩)⟩
theorem grX11_39 : ga_FR RX11 39 11 10 (.array .int) := ⟨RX11, TX11, 32, "", rfl, by decide, uwX11, Or.inl (ga_t4 185 (by decide +kernel) rfl), rfl⟩
theorem gfX11_39 : ga_FS RX11 39 11 10 true (.array .int) := ⟨RX11, TX11, 32, tyX11, "", rfl, by decide, uwX11, tyX11_ok, nmX11, Or.inl (ga_t4 185 (by decide +kernel) rfl), rfl, rfl, (fun z => ⟨rfl, (ga_t4 185 (by decide +kernel) rfl)⟩)⟩
theorem grX11_42 : ga_FR RX11 42 11 11 (.array .int) := ⟨RX11, TX11, 32, "", rfl, by decide, uwX11, Or.inl (ga_t4 186 (by decide +kernel) rfl), rfl⟩
theorem gfX11_42 : ga_FS RX11 42 11 11 true (.array .int) := ⟨RX11, TX11, 32, tyX11, "", rfl, by decide, uwX11, tyX11_ok, nmX11, Or.inl (ga_t4 186 (by decide +kernel) rfl), rfl, rfl, (fun z => ⟨rfl, (ga_t4 186 (by decide +kernel) rfl)⟩)⟩
theorem grX11_45 : ga_FR RX11 45 11 12 (.array .int) := ⟨RX11, TX11, 32, "", rfl, by decide, uwX11, Or.inl (ga_t4 187 (by decide +kernel) rfl), rfl⟩
theorem gfX11_45 : ga_FS RX11 45 11 12 true (.array .int) := ⟨RX11, TX11, 32, tyX11, "", rfl, by decide, uwX11, tyX11_ok, nmX11, Or.inl (ga_t4 187 (by decide +kernel) rfl), rfl, rfl, (fun z => ⟨rfl, (ga_t4 187 (by decide +kernel) rfl)⟩)⟩
theorem grX11_48 : ga_FR RX11 48 11 13 (.array .int) := ⟨RX11, TX11, 32, "", rfl, by decide, uwX11, Or.inl (ga_t4 188 (by decide +kernel) rfl), rfl⟩
theorem gfX11_48 : ga_FS RX11 48 11 13 true (.array .int) := ⟨RX11, TX11, 32, tyX11, "", rfl, by decide, uwX11, tyX11_ok, nmX11, Or.inl (ga_t4 188 (by decide +kernel) rfl), rfl, rfl, (fun z => ⟨rfl, (ga_t4 188 (by decide +kernel) rfl)⟩)⟩
theorem grX11_162 : ga_FR RX11 162 11 14 .int := ⟨RX11, TX11, 32, "", rfl, by decide, uwX11, Or.inl (ga_t4 189 (by decide +kernel) rfl), rfl⟩
theorem gfX11_162 : ga_FS RX11 162 11 14 false .int := ⟨RX11, TX11, 32, tyX11, "", rfl, by decide, uwX11, tyX11_ok, nmX11, Or.inl (ga_t4 189 (by decide +kernel) rfl), rfl, rfl, (fun z => by cases z)⟩
theorem grX11_168 : ga_FR RX11 168 11 15 .int := ⟨RX11, TX11, 32, "", rfl, by decide, uwX11, Or.inl (ga_t4 190 (by decide +kernel) rfl), rfl⟩
theorem gfX11_168 : ga_FS RX11 168 11 15 false .int := ⟨RX11, TX11, 32, tyX11, "", rfl, by decide, uwX11, tyX11_ok, nmX11, Or.inl (ga_t4 190 (by decide +kernel) rfl), rfl, rfl, (fun z => by cases z)⟩
theorem grX11_51 : ga_FR RX11 51 11 16 (.array .int) := ⟨RX11, TX11, 32, "", rfl, by decide, uwX11, Or.inl (ga_t4 191 (by decide +kernel) rfl), rfl⟩
theorem gfX11_51 : ga_FS RX11 51 11 16 true (.array .int) := ⟨RX11, TX11, 32, tyX11, "", rfl, by decide, uwX11, tyX11_ok, nmX11, Or.inl (ga_t4 191 (by decide +kernel) rfl), rfl, rfl, (fun z => ⟨rfl, (ga_t4 191 (by decide +kernel) rfl)⟩)⟩
theorem grX11_218 : ga_FR RX11 218 11 17 .int := ⟨RX11, TX11, 32, "", rfl, by decide, uwX11, Or.inl (ga_t4 192 (by decide +kernel) rfl), rfl⟩
theorem gfX11_218 : ga_FS RX11 218 11 17 false .int := ⟨RX11, TX11, 32, tyX11, "", rfl, by decide, uwX11, tyX11_ok, nmX11, Or.inl (ga_t4 192 (by decide +kernel) rfl), rfl, rfl, (fun z => by cases z)⟩
theorem grX11_214 : ga_FR RX11 214 11 18 .boolean := ⟨RX11, TX11, 32, "", rfl, by decide, uwX11, Or.inl (ga_t4 193 (by decide +kernel) rfl), rfl⟩
theorem gfX11_214 : ga_FS RX11 214 11 18 false .boolean := ⟨RX11, TX11, 32, tyX11, "", rfl, by decide, uwX11, tyX11_ok, nmX11, Or.inl (ga_t4 193 (by decide +kernel) rfl), rfl, rfl, (fun z => by cases z)⟩
theorem grX11_54 : ga_FR RX11 54 11 19 (.array .int) := ⟨RX11, TX11, 32, "", rfl, by decide, uwX11, Or.inl (ga_t4 194 (by decide +kernel) rfl), rfl⟩
theorem gfX11_54 : ga_FS RX11 54 11 19 true (.array .int) := ⟨RX11, TX11, 32, tyX11, "", rfl, by decide, uwX11, tyX11_ok, nmX11, Or.inl (ga_t4 194 (by decide +kernel) rfl), rfl, rfl, (fun z => ⟨rfl, (ga_t4 194 (by decide +kernel) rfl)⟩)⟩
theorem grX11_57 : ga_FR RX11 57 11 20 (.array .int) := ⟨RX11, TX11, 32, "", rfl, by decide, uwX11, Or.inl (ga_t4 195 (by decide +kernel) rfl), rfl⟩
theorem gfX11_57 : ga_FS RX11 57 11 20 true (.array .int) := ⟨RX11, TX11, 32, tyX11, "", rfl, by decide, uwX11, tyX11_ok, nmX11, Or.inl (ga_t4 195 (by decide +kernel) rfl), rfl, rfl, (fun z => ⟨rfl, (ga_t4 195 (by decide +kernel) rfl)⟩)⟩
theorem grX11_60 : ga_FR RX11 60 11 21 (.array .int) := ⟨RX11, TX11, 32, "", rfl, by decide, uwX11, Or.inl (ga_t4 196 (by decide +kernel) rfl), rfl⟩
theorem gfX11_60 : ga_FS RX11 60 11 21 true (.array .int) := ⟨RX11, TX11, 32, tyX11, "", rfl, by decide, uwX11, tyX11_ok, nmX11, Or.inl (ga_t4 196 (by decide +kernel) rfl), rfl, rfl, (fun z => ⟨rfl, (ga_t4 196 (by decide +kernel) rfl)⟩)⟩
theorem grX11_194 : ga_FR RX11 194 11 22 .int := ⟨RX11, TX11, 32, "", rfl, by decide, uwX11, Or.inl (ga_t4 197 (by decide +kernel) rfl), rfl⟩
theorem gfX11_194 : ga_FS RX11 194 11 22 false .int := ⟨RX11, TX11, 32, tyX11, "", rfl, by decide, uwX11, tyX11_ok, nmX11, Or.inl (ga_t4 197 (by decide +kernel) rfl), rfl, rfl, (fun z => by cases z)⟩
theorem grX11_63 : ga_FR RX11 63 11 23 (.array .int) := ⟨RX11, TX11, 32, "", rfl, by decide, uwX11, Or.inl (ga_t4 198 (by decide +kernel) rfl), rfl⟩
theorem gfX11_63 : ga_FS RX11 63 11 23 true (.array .int) := ⟨RX11, TX11, 32, tyX11, "", rfl, by decide, uwX11, tyX11_ok, nmX11, Or.inl (ga_t4 198 (by decide +kernel) rfl), rfl, rfl, (fun z => ⟨rfl, (ga_t4 198 (by decide +kernel) rfl)⟩)⟩
theorem grX11_66 : ga_FR RX11 66 11 24 (.array .boolean) := ⟨RX11, TX11, 32, "", rfl, by decide, uwX11, Or.inl (ga_t4 199 (by decide +kernel) rfl), rfl⟩
theorem gfX11_66 : ga_FS RX11 66 11 24 true (.array .boolean) := ⟨RX11, TX11, 32, tyX11, "", rfl, by decide, uwX11, tyX11_ok, nmX11, Or.inl (ga_t4 199 (by decide +kernel) rfl), rfl, rfl, (fun z => ⟨rfl, (ga_t4 199 (by decide +kernel) rfl)⟩)⟩
theorem grX11_69 : ga_FR RX11 69 11 25 (.array .int) := ⟨RX11, TX11, 32, "", rfl, by decide, uwX11, Or.inl (ga_t4 200 (by decide +kernel) rfl), rfl⟩
theorem gfX11_69 : ga_FS RX11 69 11 25 true (.array .int) := ⟨RX11, TX11, 32, tyX11, "", rfl, by decide, uwX11, tyX11_ok, nmX11, Or.inl (ga_t4 200 (by decide +kernel) rfl), rfl, rfl, (fun z => ⟨rfl, (ga_t4 200 (by decide +kernel) rfl)⟩)⟩
theorem grX11_72 : ga_FR RX11 72 11 26 (.array .int) := ⟨RX11, TX11, 32, "", rfl, by decide, uwX11, Or.inl (ga_t4 201 (by decide +kernel) rfl), rfl⟩
theorem gfX11_72 : ga_FS RX11 72 11 26 true (.array .int) := ⟨RX11, TX11, 32, tyX11, "", rfl, by decide, uwX11, tyX11_ok, nmX11, Or.inl (ga_t4 201 (by decide +kernel) rfl), rfl, rfl, (fun z => ⟨rfl, (ga_t4 201 (by decide +kernel) rfl)⟩)⟩
theorem grX11_75 : ga_FR RX11 75 11 27 (.array .int) := ⟨RX11, TX11, 32, "", rfl, by decide, uwX11, Or.inl (ga_t4 202 (by decide +kernel) rfl), rfl⟩
theorem gfX11_75 : ga_FS RX11 75 11 27 true (.array .int) := ⟨RX11, TX11, 32, tyX11, "", rfl, by decide, uwX11, tyX11_ok, nmX11, Or.inl (ga_t4 202 (by decide +kernel) rfl), rfl, rfl, (fun z => ⟨rfl, (ga_t4 202 (by decide +kernel) rfl)⟩)⟩
theorem grX11_78 : ga_FR RX11 78 11 28 (.array .boolean) := ⟨RX11, TX11, 32, "", rfl, by decide, uwX11, Or.inl (ga_t4 203 (by decide +kernel) rfl), rfl⟩
theorem gfX11_78 : ga_FS RX11 78 11 28 true (.array .boolean) := ⟨RX11, TX11, 32, tyX11, "", rfl, by decide, uwX11, tyX11_ok, nmX11, Or.inl (ga_t4 203 (by decide +kernel) rfl), rfl, rfl, (fun z => ⟨rfl, (ga_t4 203 (by decide +kernel) rfl)⟩)⟩
theorem grX11_81 : ga_FR RX11 81 11 29 (.array .int) := ⟨RX11, TX11, 32, "", rfl, by decide, uwX11, Or.inl (ga_t4 204 (by decide +kernel) rfl), rfl⟩
theorem gfX11_81 : ga_FS RX11 81 11 29 true (.array .int) := ⟨RX11, TX11, 32, tyX11, "", rfl, by decide, uwX11, tyX11_ok, nmX11, Or.inl (ga_t4 204 (by decide +kernel) rfl), rfl, rfl, (fun z => ⟨rfl, (ga_t4 204 (by decide +kernel) rfl)⟩)⟩
theorem grX11_181 : ga_FR RX11 181 11 30 .long := ⟨RX11, TX11, 32, "", rfl, by decide, uwX11, Or.inl (ga_t4 205 (by decide +kernel) rfl), rfl⟩
theorem gfX11_181 : ga_FS RX11 181 11 30 false .long := ⟨RX11, TX11, 32, tyX11, "", rfl, by decide, uwX11, tyX11_ok, nmX11, Or.inl (ga_t4 205 (by decide +kernel) rfl), rfl, rfl, (fun z => by cases z)⟩
theorem grX11_177 : ga_FR RX11 177 11 31 .long := ⟨RX11, TX11, 32, "", rfl, by decide, uwX11, Or.inl (ga_t4 206 (by decide +kernel) rfl), rfl⟩
theorem gfX11_177 : ga_FS RX11 177 11 31 false .long := ⟨RX11, TX11, 32, tyX11, "", rfl, by decide, uwX11, tyX11_ok, nmX11, Or.inl (ga_t4 206 (by decide +kernel) rfl), rfl, rfl, (fun z => by cases z)⟩
theorem lkL_65 : Cond.methodLink RL 65 yX11_thrown ∈ ga_big := (ga_t5 32 (by decide +kernel) rfl)
theorem lkL_64 : Cond.methodLink RL 64 yX11_net ∈ ga_big := (ga_t5 36 (by decide +kernel) rfl)
theorem lkX11_88 : Cond.methodLink RX11 88 yX11_isSide ∈ ga_big := (ga_t5 40 (by decide +kernel) rfl)
theorem lkL_74 : Cond.methodLink RL 74 yX11_device ∈ ga_big := (ga_t5 43 (by decide +kernel) rfl)
theorem lkX11_92 : Cond.methodLink RX11 92 yX11_isKind ∈ ga_big := (ga_t5 47 (by decide +kernel) rfl)
theorem lkL_78 : Cond.methodLink RL 78 yX11_pin ∈ ga_big := (ga_t5 51 (by decide +kernel) rfl)
theorem lkX11_97 : Cond.methodLink RX11 97 yX11_isDevice ∈ ga_big := (ga_t5 55 (by decide +kernel) rfl)
theorem lkX11_101 : Cond.methodLink RX11 101 yX11_isPin ∈ ga_big := (ga_t5 59 (by decide +kernel) rfl)
theorem lkX11_104 : Cond.methodLink RX11 104 yX11_isNet ∈ ga_big := (ga_t5 62 (by decide +kernel) rfl)
theorem lkL_82 : Cond.methodLink RL 82 yX11_swap ∈ ga_big := (ga_t5 66 (by decide +kernel) rfl)
theorem lkL_86 : Cond.methodLink RL 86 yX11_share ∈ ga_big := (ga_t5 70 (by decide +kernel) rfl)
theorem lkL_89 : Cond.methodLink RL 89 yX11_port ∈ ga_big := (ga_t5 74 (by decide +kernel) rfl)
theorem lkL_92 : Cond.methodLink RL 92 yX11_join ∈ ga_big := (ga_t5 78 (by decide +kernel) rfl)
theorem lkX11_127 : Cond.methodLink RX11 127 yX11_isJoined ∈ ga_big := (ga_t5 82 (by decide +kernel) rfl)
theorem lkX11_121 : Cond.methodLink RX11 121 yX11_isParallel ∈ ga_big := (ga_t5 86 (by decide +kernel) rfl)
theorem lkX11_107 : Cond.methodLink RX11 107 yX11_group ∈ ga_big := (ga_t5 90 (by decide +kernel) rfl)
theorem lkX11_111 : Cond.methodLink RX11 111 yX11_pinsOn ∈ ga_big := (ga_t5 94 (by decide +kernel) rfl)
theorem lkX11_124 : Cond.methodLink RX11 124 yX11_common ∈ ga_big := (ga_t5 98 (by decide +kernel) rfl)
theorem lkX11_115 : Cond.methodLink RX11 115 yX11_isChain ∈ ga_big := (ga_t5 102 (by decide +kernel) rfl)
theorem lkX11_118 : Cond.methodLink RX11 118 yX11_all ∈ ga_big := (ga_t5 106 (by decide +kernel) rfl)
theorem lkX11_130 : Cond.methodLink RX11 130 yX11_live ∈ ga_big := (ga_t5 110 (by decide +kernel) rfl)
theorem lkL_98 : Cond.methodLink RL 98 yX11_run ∈ ga_big := (ga_t5 114 (by decide +kernel) rfl)
theorem lkX11_236 : Cond.methodLink RX11 236 yX11_refine ∈ ga_big := (ga_t5 119 (by decide +kernel) rfl)
theorem lkX11_158 : Cond.methodLink RX11 158 yX11_begin ∈ ga_big := (ga_t5 123 (by decide +kernel) rfl)
theorem lkX11_143 : Cond.methodLink RX11 143 yX11_isLive ∈ ga_big := (ga_t5 127 (by decide +kernel) rfl)
theorem lkX11_149 : Cond.methodLink RX11 149 yX11_isUsedAt ∈ ga_big := (ga_t5 131 (by decide +kernel) rfl)
theorem lkX11_140 : Cond.methodLink RX11 140 yX11_isUsed ∈ ga_big := (ga_t5 135 (by decide +kernel) rfl)
theorem lkX11_155 : Cond.methodLink RX11 155 yX11_take ∈ ga_big := (ga_t5 139 (by decide +kernel) rfl)
theorem lkX11_165 : Cond.methodLink RX11 165 yX11_round ∈ ga_big := (ga_t5 143 (by decide +kernel) rfl)
theorem lkX11_146 : Cond.methodLink RX11 146 yX11_isLikeDevice ∈ ga_big := (ga_t5 147 (by decide +kernel) rfl)
theorem lkX11_134 : Cond.methodLink RX11 134 yX11_pinsOnClass ∈ ga_big := (ga_t5 151 (by decide +kernel) rfl)
theorem lkX11_152 : Cond.methodLink RX11 152 yX11_isLikeNet ∈ ga_big := (ga_t5 155 (by decide +kernel) rfl)
theorem lkX11_137 : Cond.methodLink RX11 137 yX11_pinsOfClass ∈ ga_big := (ga_t5 159 (by decide +kernel) rfl)
theorem lkX11_239 : Cond.methodLink RX11 239 yX11_isMatched ∈ ga_big := (ga_t5 163 (by decide +kernel) rfl)
theorem lkX11_197 : Cond.methodLink RX11 197 yX11_used ∈ ga_big := (ga_t5 167 (by decide +kernel) rfl)
theorem lkX11_200 : Cond.methodLink RX11 200 yX11_isNamed ∈ ga_big := (ga_t5 171 (by decide +kernel) rfl)
theorem lkX11_191 : Cond.methodLink RX11 191 yX11_hasName ∈ ga_big := (ga_t5 175 (by decide +kernel) rfl)
theorem lkX11_204 : Cond.methodLink RX11 204 yX11_sortFirst ∈ ga_big := (ga_t5 179 (by decide +kernel) rfl)
theorem lkX11_207 : Cond.methodLink RX11 207 yX11_isChoice ∈ ga_big := (ga_t5 183 (by decide +kernel) rfl)
theorem lkX11_174 : Cond.methodLink RX11 174 yX11_isFree ∈ ga_big := (ga_t5 187 (by decide +kernel) rfl)
theorem lkX11_184 : Cond.methodLink RX11 184 yX11_isAgreed ∈ ga_big := (ga_t5 191 (by decide +kernel) rfl)
theorem lkX11_187 : Cond.methodLink RX11 187 yX11_isSorted ∈ ga_big := (ga_t5 195 (by decide +kernel) rfl)
theorem lkX11_171 : Cond.methodLink RX11 171 yX11_touch ∈ ga_big := (ga_t5 199 (by decide +kernel) rfl)
theorem lkX11_210 : Cond.methodLink RX11 210 yX11_pairNets ∈ ga_big := (ga_t5 203 (by decide +kernel) rfl)
theorem lkX11_242 : Cond.methodLink RX11 242 yX11_keep ∈ ga_big := (ga_t5 207 (by decide +kernel) rfl)
theorem lkX11_245 : Cond.methodLink RX11 245 yX11_explain ∈ ga_big := (ga_t5 211 (by decide +kernel) rfl)
theorem lkX11_225 : Cond.methodLink RX11 225 yX11_ofKind ∈ ga_big := (ga_t5 215 (by decide +kernel) rfl)
theorem lkX11_221 : Cond.methodLink RX11 221 yX11_differ ∈ ga_big := (ga_t5 219 (by decide +kernel) rfl)
theorem lkX11_228 : Cond.methodLink RX11 228 yX11_differNames ∈ ga_big := (ga_t5 223 (by decide +kernel) rfl)
theorem lkX11_231 : Cond.methodLink RX11 231 yX11_ofClass ∈ ga_big := (ga_t5 227 (by decide +kernel) rfl)
theorem lkL_101 : Cond.methodLink RL 101 yX11_match ∈ ga_big := (ga_t5 231 (by decide +kernel) rfl)
theorem lkL_105 : Cond.methodLink RL 105 yX11_netMatch ∈ ga_big := (ga_t5 235 (by decide +kernel) rfl)
theorem lkL_108 : Cond.methodLink RL 108 yX11_differs ∈ ga_big := (ga_t5 239 (by decide +kernel) rfl)
theorem lkL_112 : Cond.methodLink RL 112 yX11_rounds ∈ ga_big := (ga_t6 3 (by decide +kernel) rfl)
theorem lkL_116 : Cond.methodLink RL 116 yX11_tried ∈ ga_big := (ga_t6 7 (by decide +kernel) rfl)
theorem lkL_121 : Cond.methodLink RL 121 yX11_tested ∈ ga_big := (ga_t6 11 (by decide +kernel) rfl)
theorem lkX11_248 : Cond.methodLink RX11 248 yX11_isSameNet ∈ ga_big := (ga_t6 15 (by decide +kernel) rfl)
theorem acI : Cond.arrayClass .int ∈ ga_big := (ga_t1 100 (by decide +kernel) rfl)
theorem acZ : Cond.arrayClass .boolean ∈ ga_big := (ga_t1 101 (by decide +kernel) rfl)
theorem acD : Cond.arrayClass .double ∈ ga_big := (ga_t1 102 (by decide +kernel) rfl)
theorem acL : Cond.arrayClass .long ∈ ga_big := (ga_t6 21 (by decide +kernel) rfl)
theorem ow2 : Cond.instanceMethod Lib.objectInit ∈ ga_big := (ga_t1 27 (by decide +kernel) rfl)
theorem ow3 : Cond.code Lib.objectInit ⟨#[0xb1]⟩ 1 none ∈ ga_big := (ga_t1 28 (by decide +kernel) rfl)
theorem cnX10_97 : Cond.constantDouble RX10 97 (4696837146684686336) ∈ ga_big := (ga_t3 62 (by decide +kernel) rfl)
theorem cnX10_162 : Cond.constantLong RX10 162 (2000) ∈ ga_big := (ga_t3 196 (by decide +kernel) rfl)
theorem cnX11_95 : Cond.constantDouble RX11 95 (4696837146684686336) ∈ ga_big := (ga_t5 50 (by decide +kernel) rfl)
theorem cnX11_234 : Cond.constantLong RX11 234 (2000) ∈ ga_big := (ga_t5 118 (by decide +kernel) rfl)
theorem cnL_69 : Cond.constantDouble RL 69 (4593671619917905920) ∈ ga_big := (ga_t6 19 (by decide +kernel) rfl)
theorem cnL_93 : Cond.constantLong RL 93 (4294967295) ∈ ga_big := (ga_t6 20 (by decide +kernel) rfl)
set_option maxRecDepth 20000 in
theorem tf_71_w : ∀ w ∈ vx_atS RX10 71 "java/lang/IllegalStateException" ["java/lang/RuntimeException", "java/lang/Exception"], w ∈ lw_tbl ∧ ga_good2 w = true := by decide +kernel
theorem tf_71 : ga_TF RX10 67 71 "java/lang/IllegalStateException" ["java/lang/RuntimeException", "java/lang/Exception"] := ⟨by decide +kernel, by decide +kernel, (ga_t3 14 (by decide +kernel) rfl), (ga_t1 18 (by decide +kernel) rfl), fun w hw => ga_mem (tf_71_w w hw).1 (tf_71_w w hw).2, by decide +kernel, rfl⟩
theorem hl_71 : Cond.classLink RL 15 "java/lang/IllegalStateException" ∈ ga_big := (ga_t2 172 (by decide +kernel) rfl)
theorem hc_71 : Cond.castable "java/lang/IllegalStateException" "java/lang/IllegalStateException" ∈ ga_big := (ga_t3 16 (by decide +kernel) rfl)
set_option maxRecDepth 20000 in
theorem tf_78_w : ∀ w ∈ vx_atS RX10 78 "java/lang/IllegalArgumentException" ["java/lang/RuntimeException", "java/lang/Exception"], w ∈ lw_tbl ∧ ga_good2 w = true := by decide +kernel
theorem tf_78 : ga_TF RX10 74 78 "java/lang/IllegalArgumentException" ["java/lang/RuntimeException", "java/lang/Exception"] := ⟨by decide +kernel, by decide +kernel, (ga_t3 30 (by decide +kernel) rfl), (ga_t1 19 (by decide +kernel) rfl), fun w hw => ga_mem (tf_78_w w hw).1 (tf_78_w w hw).2, by decide +kernel, rfl⟩
theorem hl_78 : Cond.classLink RL 17 "java/lang/IllegalArgumentException" ∈ ga_big := (ga_t2 173 (by decide +kernel) rfl)
theorem hc_78 : Cond.castable "java/lang/IllegalArgumentException" "java/lang/IllegalArgumentException" ∈ ga_big := (ga_t3 32 (by decide +kernel) rfl)
set_option maxRecDepth 20000 in
theorem tf_91_w : ∀ w ∈ vx_atS RX10 91 "java/lang/IndexOutOfBoundsException" ["java/lang/RuntimeException", "java/lang/Exception"], w ∈ lw_tbl ∧ ga_good2 w = true := by decide +kernel
theorem tf_91 : ga_TF RX10 87 91 "java/lang/IndexOutOfBoundsException" ["java/lang/RuntimeException", "java/lang/Exception"] := ⟨by decide +kernel, by decide +kernel, (ga_t2 182 (by decide +kernel) rfl), (ga_t1 17 (by decide +kernel) rfl), fun w hw => ga_mem (tf_91_w w hw).1 (tf_91_w w hw).2, by decide +kernel, rfl⟩
theorem hl_91 : Cond.classLink RL 13 "java/lang/IndexOutOfBoundsException" ∈ ga_big := (ga_t2 171 (by decide +kernel) rfl)
theorem hc_91 : Cond.castable "java/lang/IndexOutOfBoundsException" "java/lang/IndexOutOfBoundsException" ∈ ga_big := (ga_t2 184 (by decide +kernel) rfl)
