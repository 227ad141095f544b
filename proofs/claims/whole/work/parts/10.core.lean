/-! ===== memory: all ints of all cells, by kind, instance, place ===== -/
def gw_t : List Cond := lw_tbl.filter goodWord
theorem gw_mem {w : Cond} (k : Nat) (h : lw_tbl[k]? = some w) (g : goodWord w = true) : w ∈ gw_t := List.mem_filter.mpr ⟨List.mem_of_getElem? h, g⟩
theorem gw_good : GoodIn gw_t gw_t := fun w h => ⟨h, good_of_word (List.mem_filter.mp h).2⟩
theorem gw_law : GoodIn lw_tbl gw_t := fun w h => ⟨(List.mem_filter.mp h).1, good_of_word (List.mem_filter.mp h).2⟩
abbrev mm_T : Type := Nat → Nat → Nat → Int32
def mm_row (I : mm_T) (k i : Nat) (f : Nat → Int32) : mm_T := fun a => if a = k then (fun b => if b = i then f else I a b) else I a
def mm_up (I : mm_T) (k i j : Nat) (v : Int32) : mm_T := mm_row I k i (upd (I k i) j v)
theorem mm_row_ne {I : mm_T} {k i : Nat} {f : Nat → Int32} {a : Nat} (h : a ≠ k) : mm_row I k i f a = I a := by unfold mm_row; rw [if_neg h]
theorem mm_row_at {I : mm_T} {k i : Nat} {f : Nat → Int32} : mm_row I k i f k i = f := by unfold mm_row; rw [if_pos rfl]; exact if_pos rfl
theorem mm_row_ni {I : mm_T} {k i : Nat} {f : Nat → Int32} {b : Nat} (h : b ≠ i) : mm_row I k i f k b = I k b := by unfold mm_row; rw [if_pos rfl]; exact if_neg h
theorem mm_up_ne {I : mm_T} {k i j : Nat} {v : Int32} {a : Nat} (h : a ≠ k) : mm_up I k i j v a = I a := mm_row_ne h
theorem mm_up_at {I : mm_T} {k i j : Nat} {v : Int32} : mm_up I k i j v k i = upd (I k i) j v := mm_row_at
theorem mm_up_ni {I : mm_T} {k i j : Nat} {v : Int32} {b : Nat} (h : b ≠ i) : mm_up I k i j v k b = I k b := mm_row_ni h
/-- the class's memory and the reference's, as one -/
def mm_m (k : Nat) : Bool := k == 9 || 30 ≤ k
def mm_mx (I J : mm_T) : mm_T := fun k => if mm_m k = true then J k else I k
theorem mm_mx_I {I J : mm_T} {k : Nat} (h : mm_m k = false) : mm_mx I J k = I k := by unfold mm_mx; rw [h]; rfl
theorem mm_mx_J {I J : mm_T} {k : Nat} (h : mm_m k = true) : mm_mx I J k = J k := by unfold mm_mx; rw [h]; rfl
theorem mm_mx_rowI {I J : mm_T} {k i : Nat} {f : Nat → Int32} (h : mm_m k = false) : mm_mx (mm_row I k i f) J = mm_row (mm_mx I J) k i f := by
  funext a
  by_cases ha : a = k
  · subst ha
    funext b
    by_cases hb : b = i
    · subst hb; rw [mm_mx_I h, mm_row_at, mm_row_at]
    · rw [mm_mx_I h, mm_row_ni hb, mm_row_ni hb, mm_mx_I h]
  · rw [mm_row_ne ha]; unfold mm_mx; rw [mm_row_ne ha]
theorem mm_mx_rowJ {I J : mm_T} {k i : Nat} {f : Nat → Int32} (h : mm_m k = true) : mm_mx I (mm_row J k i f) = mm_row (mm_mx I J) k i f := by
  funext a
  by_cases ha : a = k
  · subst ha
    funext b
    by_cases hb : b = i
    · subst hb; rw [mm_mx_J h, mm_row_at, mm_row_at]
    · rw [mm_mx_J h, mm_row_ni hb, mm_row_ni hb, mm_mx_J h]
  · rw [mm_row_ne ha]; unfold mm_mx; rw [mm_row_ne ha]
/-! ===== a world of cells side by side from an address on ===== -/
def gm_W (b n : Nat) (M : Nat → va_E) : va_W := (List.range n).map fun k => (b + k, M k)
theorem gm_len {b n : Nat} {M : Nat → va_E} : (gm_W b n M).length = n := by simp [gm_W]
theorem gm_get {b n k : Nat} {M : Nat → va_E} (h : k < n) : (gm_W b n M)[k]? = some (b + k, M k) := by
  simp [gm_W, h]
theorem gm_lt {b n k : Nat} {M : Nat → va_E} {q : Nat × va_E} (h : (gm_W b n M)[k]? = some q) : k < n ∧ q = (b + k, M k) := by
  have hk : k < n := by
    have := (List.getElem?_eq_some_iff.mp h).1
    rwa [gm_len] at this
  rw [gm_get hk] at h
  exact ⟨hk, (Option.some.inj h).symm⟩
theorem gm_D {b n : Nat} {M : Nat → va_E} : va_D (fun q => b ≤ q) (gm_W b n M) := by
  refine ⟨fun i j p q hp hq e => ?_, fun k q hk => ?_⟩
  · obtain ⟨-, rfl⟩ := gm_lt hp
    obtain ⟨-, rfl⟩ := gm_lt hq
    simp only at e
    omega
  · obtain ⟨-, rfl⟩ := gm_lt hk
    exact Nat.le_add_right b k
theorem gm_set {b n k : Nat} {M : Nat → va_E} {e : va_E} : (gm_W b n M).set k (b + k, e) = gm_W b n (va_up M k e) := by
  apply List.ext_getElem?
  intro j
  rw [List.getElem?_set]
  by_cases hj : j < n
  · rw [gm_get (M := va_up M k e) hj]
    by_cases hk : k = j
    · subst hk
      rw [if_pos rfl, gm_len, if_pos hj]
      unfold va_up
      rw [if_pos rfl]
    · rw [if_neg hk, gm_get hj]
      unfold va_up
      rw [if_neg (fun h => hk h.symm)]
  · have h1 : (gm_W b n (va_up M k e))[j]? = none := by rw [List.getElem?_eq_none_iff, gm_len]; omega
    have h2 : (gm_W b n M)[j]? = none := by rw [List.getElem?_eq_none_iff, gm_len]; omega
    rw [h1, h2, gm_len]
    by_cases hk : k = j
    · rw [if_pos hk, if_neg (by omega)]
    · rw [if_neg hk]
theorem gm_push {b n : Nat} {M : Nat → va_E} {e : va_E} : gm_W b n M ++ [(b + n, e)] = gm_W b (n + 1) (va_up M n e) := by
  unfold gm_W
  rw [List.range_succ, List.map_append]
  congr 1
  · apply List.map_congr_left
    intro k hk
    have := List.mem_range.mp hk
    unfold va_up
    rw [if_neg (by omega)]
  · simp [va_up]
/-! ===== the layout ===== -/
/-- tables' names, array classes, the first address, the addresses of the text constants and of their bytes -/
abbrev cx_T : Type := va_G × (Nat → ClassId) × Nat × (Nat → Nat) × (Nat → Nat)
abbrev cx_D (G : cx_T) : va_G := G.1
abbrev cx_c (G : cx_T) : Nat → ClassId := G.2.1
abbrev cx_b (G : cx_T) : Nat := G.2.2.1
abbrev cx_K (G : cx_T) : Nat → Nat := G.2.2.2.1
abbrev cx_V (G : cx_T) : Nat → Nat := G.2.2.2.2
def ly_loc (k i : Nat) : Nat := match k with
  | 0 => if i = 0 then 41 else 47 + 7 * i
  | 1 => 1 + 18 * i
  | 2 => 4 + 18 * (i / 8) + i % 8
  | 3 => 37 + i
  | 4 => 48 + i
  | 5 => 114 + 2 * i
  | 6 => 12 + 18 * (i / 7) + i % 7
  | 7 => if i = 0 then 111 else 141 + 3 * i
  | 8 => i
  | 9 => 122 + i
  | 10 => if i = 0 then 42 else 48 + 7 * i
  | 11 => if i = 0 then 43 else 49 + 7 * i
  | 12 => if i = 0 then 44 else 50 + 7 * i
  | 13 => if i = 0 then 45 else 51 + 7 * i
  | 14 => if i = 0 then 46 else 52 + 7 * i
  | 15 => if i = 0 then 47 else 53 + 7 * i
  | 16 => 2 + 18 * i
  | 17 => 3 + 18 * i
  | 18 => 38 + i
  | 19 => 39 + i
  | 20 => 40 + i
  | 21 => 49 + i
  | 22 => 50 + i
  | 23 => 51 + i
  | 24 => 52 + i
  | 25 => 53 + i
  | 26 => 110 + i
  | 27 => 115 + 2 * i
  | 28 => if i = 0 then 112 else 142 + 3 * i
  | 29 => if i = 0 then 113 else 143 + 3 * i
  | 30 => 123 + i
  | 31 => 124 + i
  | 32 => 125 + i
  | 33 => 126 + i
  | 34 => 127 + i
  | 35 => 128 + i
  | 36 => 129 + i
  | 37 => 130 + i
  | 38 => 131 + i
  | 39 => 132 + i
  | 40 => 133 + i
  | 41 => 134 + i
  | 42 => 135 + i
  | 43 => 136 + i
  | 44 => 137 + i
  | 45 => 138 + i
  | 46 => 139 + i
  | 47 => 140 + i
  | 48 => 141 + i
  | 49 => 142 + i
  | _ => 143 + i
def ly_tab : List (Nat × Nat) := [(8, 0), (1, 0), (16, 0), (17, 0), (2, 0), (2, 1), (2, 2), (2, 3), (2, 4), (2, 5), (2, 6), (2, 7), (6, 0), (6, 1), (6, 2), (6, 3), (6, 4), (6, 5), (6, 6), (1, 1), (16, 1), (17, 1), (2, 8), (2, 9), (2, 10), (2, 11), (2, 12), (2, 13), (2, 14), (2, 15), (6, 7), (6, 8), (6, 9), (6, 10), (6, 11), (6, 12), (6, 13), (3, 0), (18, 0), (19, 0), (20, 0), (0, 0), (10, 0), (11, 0), (12, 0), (13, 0), (14, 0), (15, 0), (4, 0), (21, 0), (22, 0), (23, 0), (24, 0), (25, 0), (0, 1), (10, 1), (11, 1), (12, 1), (13, 1), (14, 1), (15, 1), (0, 2), (10, 2), (11, 2), (12, 2), (13, 2), (14, 2), (15, 2), (0, 3), (10, 3), (11, 3), (12, 3), (13, 3), (14, 3), (15, 3), (0, 4), (10, 4), (11, 4), (12, 4), (13, 4), (14, 4), (15, 4), (0, 5), (10, 5), (11, 5), (12, 5), (13, 5), (14, 5), (15, 5), (0, 6), (10, 6), (11, 6), (12, 6), (13, 6), (14, 6), (15, 6), (0, 7), (10, 7), (11, 7), (12, 7), (13, 7), (14, 7), (15, 7), (0, 8), (10, 8), (11, 8), (12, 8), (13, 8), (14, 8), (15, 8), (26, 0), (7, 0), (28, 0), (29, 0), (5, 0), (27, 0), (5, 1), (27, 1), (5, 2), (27, 2), (5, 3), (27, 3), (9, 0), (30, 0), (31, 0), (32, 0), (33, 0), (34, 0), (35, 0), (36, 0), (37, 0), (38, 0), (39, 0), (40, 0), (41, 0), (42, 0), (43, 0), (44, 0), (45, 0), (46, 0), (47, 0), (48, 0), (49, 0), (50, 0)]
def ly_lay (k : Nat) : Nat × Nat := if k < 144 then ly_tab.getD k (0, 0) else ((if (k - 144) % 3 = 0 then 7 else if (k - 144) % 3 = 1 then 28 else 29), (k - 144) / 3 + 1)
theorem ly_inv0 : ∀ k, k < 144 → ly_loc (ly_tab.getD k (0, 0)).1 (ly_tab.getD k (0, 0)).2 = k := by decide +kernel
theorem ly_inv (k : Nat) : ly_loc (ly_lay k).1 (ly_lay k).2 = k := by
  unfold ly_lay
  by_cases h : k < 144
  · rw [if_pos h]; exact ly_inv0 k h
  · rw [if_neg h]
    have h3 : (k - 144) % 3 = 0 ∨ (k - 144) % 3 = 1 ∨ (k - 144) % 3 = 2 := by omega
    rcases h3 with h3 | h3 | h3
    · rw [if_pos h3]; show (if (k - 144) / 3 + 1 = 0 then 111 else 141 + 3 * ((k - 144) / 3 + 1)) = k; rw [if_neg (by omega)]; omega
    · rw [if_neg (by omega), if_pos h3]; show (if (k - 144) / 3 + 1 = 0 then 112 else 142 + 3 * ((k - 144) / 3 + 1)) = k; rw [if_neg (by omega)]; omega
    · rw [if_neg (by omega), if_neg (by omega)]; show (if (k - 144) / 3 + 1 = 0 then 113 else 143 + 3 * ((k - 144) / 3 + 1)) = k; rw [if_neg (by omega)]; omega
theorem ly_inj {a b : Nat} (h : ly_lay a = ly_lay b) : a = b := by rw [← ly_inv a, ← ly_inv b, h]
def ly_tx (G : cx_T) (v : Int32) : Value := if v = -1 then .null else .ref (cx_b G + ly_loc 7 v.toNatClampNeg)
def ly_K (G : cx_T) (k i : Nat) (c : Nat → Int32) : va_E := match k with
  | 0 => .inr (0, [.ref (cx_b G + ly_loc 1 0), ly_tx G (c 1), .ref (cx_b G + ly_loc 10 i), .ref (cx_b G + ly_loc 11 i), .ref (cx_b G + ly_loc 12 i), .ref (cx_b G + ly_loc 13 i), .ref (cx_b G + ly_loc 14 i), .int (c 7), .ref (cx_b G + ly_loc 15 i), .int (c 9), .int (c 10), .int (c 11), .int (c 12), .int (c 13), .int (c 14), .int (c 15)])
  | 1 => .inr (1, [.ref (cx_b G + ly_loc 16 i), .ref (cx_b G + ly_loc 17 i), .int (c 2), .int (c 3), .int (c 4), .int (c 5), .int (c 6), .int (c 7)])
  | 2 => .inr (2, [.int (c 0), .int (c 1)])
  | 3 => .inr (3, [.ref (cx_b G + ly_loc 18 0), .int (c 1), .ref (cx_b G + ly_loc 19 0), .int (c 3), .int (c 4), .int (c 5), .int (c 6), .int (c 7), .int (c 8), .int (c 9), .int (c 10)])
  | 4 => .inr (4, [.ref (cx_b G + ly_loc 1 0), .ref (cx_b G + ly_loc 21 0), .ref (cx_b G + ly_loc 22 0), .ref (cx_b G + ly_loc 23 0), .ref (cx_b G + ly_loc 24 0), .ref (cx_b G + ly_loc 25 0), .int (c 6)])
  | 5 => .inr (5, [.ref (cx_b G + ly_loc 27 i), .int (c 1), .int (c 2)])
  | 6 => .inr (6, [.int (c 0), .int (c 1), .int (c 2), .int (c 3)])
  | 7 => .inr (7, [.ref (cx_b G + ly_loc 28 i), .int (c 1), .int (c 2), .ref (cx_b G + ly_loc 29 i)])
  | 8 => .inr (8, [.ref (cx_b G + ly_loc 1 0), .ref (cx_b G + ly_loc 1 1), .int (c 2), .ref (cx_b G + ly_loc 3 0), .ref (cx_b G + ly_loc 20 0), .int (c 5), .ref (cx_b G + ly_loc 0 0), .ref (cx_b G + ly_loc 4 0), .ref (cx_b G + ly_loc 26 0)])
  | 9 => .inr (9, [.int (c 0), .ref (cx_b G + ly_loc 30 0), .ref (cx_b G + ly_loc 31 0), .int (c 3), .int (c 4), .ref (cx_b G + ly_loc 32 0), .int (c 6), .ref (cx_b G + ly_loc 33 0), .ref (cx_b G + ly_loc 34 0), .int (c 9), .ref (cx_b G + ly_loc 35 0), .ref (cx_b G + ly_loc 36 0), .ref (cx_b G + ly_loc 37 0), .ref (cx_b G + ly_loc 38 0), .int (c 14), .int (c 15), .int (c 16), .int (c 17), .int (c 18), .int (c 19), .int (c 20), .int (c 21), .int (c 22), .int (c 23), .int (c 24), .int (c 25), .int (c 26), .int (c 27), .long (c 28).toInt64, .int (c 29), .int (c 30), .int (c 31), .int (c 32), .int (c 33), .int (c 34), .int (c 35), .int (c 36), .ref (cx_b G + ly_loc 39 0), .ref (cx_b G + ly_loc 40 0), .int (c 39), .int (c 40), .ref (cx_b G + ly_loc 41 0), .ref (cx_b G + ly_loc 42 0), .ref (cx_b G + ly_loc 43 0), .ref (cx_b G + ly_loc 44 0), .int (c 45), .int (c 46), .int (c 47), .int (c 48), .int (c 49), .ref (cx_b G + ly_loc 45 0), .ref (cx_b G + ly_loc 46 0), .int (c 52), .int (c 53), .int (c 54), .int (c 55), .int (c 56), .ref (cx_b G + ly_loc 47 0), .ref (cx_b G + ly_loc 48 0), .ref (cx_b G + ly_loc 49 0), .ref (cx_b G + ly_loc 50 0)])
  | 10 => .inl (cx_c G 0, 6, .inl c)
  | 11 => .inl (cx_c G 0, 8, .inl c)
  | 12 => .inl (cx_c G 0, 8, .inl c)
  | 13 => .inl (cx_c G 0, 8, .inl c)
  | 14 => .inl (cx_c G 0, 7, .inl c)
  | 15 => .inl (cx_c G 0, 7, .inl c)
  | 16 => .inl (cx_c G 2, 8, .inr (.inr (.inr (.inr (fun j => some (cx_b G + ly_loc 2 (8 * i + j)))))))
  | 17 => .inl (cx_c G 3, 7, .inr (.inr (.inr (.inr (fun j => some (cx_b G + ly_loc 6 (7 * i + j)))))))
  | 18 => .inl (cx_c G 0, 160, .inl c)
  | 19 => .inl (cx_c G 0, 160, .inl c)
  | 20 => .inl (cx_c G 4, 6, .inr (.inr (.inr (.inr (fun j => if c j = -1 then none else some (cx_b G + ly_loc 7 (c j).toNatClampNeg))))))
  | 21 => .inl (cx_c G 5, 8, .inr (.inr (.inr (.inr (fun j => some (cx_b G + ly_loc 0 (j + 1)))))))
  | 22 => .inl (cx_c G 0, 2, .inl c)
  | 23 => .inl (cx_c G 0, 2, .inl c)
  | 24 => .inl (cx_c G 0, 2, .inl c)
  | 25 => .inl (cx_c G 0, 2, .inl c)
  | 26 => .inl (cx_c G 6, 4, .inr (.inr (.inr (.inr (fun j => if c j = -1 then none else some (cx_b G + ly_loc 5 j))))))
  | 27 => .inl (cx_c G 0, 40, .inl c)
  | 28 => .inl (cx_c G 0, (c 1000).toNatClampNeg, .inl c)
  | 29 => .inl (cx_c G 0, 31, .inl c)
  | 30 => .inl (cx_c G 0, 960, .inl c)
  | 31 => .inl (cx_c G 0, 6, .inl c)
  | 32 => .inl (cx_c G 0, 160, .inl c)
  | 33 => .inl (cx_c G 0, 8, .inl c)
  | 34 => .inl (cx_c G 0, 8, .inl c)
  | 35 => .inl (cx_c G 0, 7, .inl c)
  | 36 => .inl (cx_c G 0, 7, .inl c)
  | 37 => .inl (cx_c G 0, 7, .inl c)
  | 38 => .inl (cx_c G 0, 7, .inl c)
  | 39 => .inl (cx_c G 0, 8, .inl c)
  | 40 => .inl (cx_c G 0, 8, .inl c)
  | 41 => .inl (cx_c G 0, 7, .inl c)
  | 42 => .inl (cx_c G 0, 56, .inl c)
  | 43 => .inl (cx_c G 0, 64, .inl c)
  | 44 => .inl (cx_c G 0, 64, .inl c)
  | 45 => .inl (cx_c G 0, 16, .inl c)
  | 46 => .inl (cx_c G 0, 21, .inl c)
  | 47 => .inl (cx_c G 1, 4, .inl c)
  | 48 => .inl (cx_c G 0, 4, .inl c)
  | 49 => .inl (cx_c G 0, 4, .inl c)
  | _ => .inl (cx_c G 0, 160, .inl c)
def ly_cell (G : cx_T) (M : mm_T) (k : Nat) : va_E := ly_K G (ly_lay k).1 (ly_lay k).2 (M (ly_lay k).1 (ly_lay k).2)
/-- an instance that is there -/
def ly_ok (n k i : Nat) : Prop := ly_lay (ly_loc k i) = (k, i) ∧ ly_loc k i < n
theorem ly_at {G : cx_T} {M : mm_T} {n k i : Nat} (h : ly_ok n k i) : ly_cell G M (ly_loc k i) = ly_K G k i (M k i) := by unfold ly_cell; rw [h.1]
theorem ly_get {G : cx_T} {M : mm_T} {b n k i : Nat} (h : ly_ok n k i) : (gm_W b n (ly_cell G M))[ly_loc k i]? = some (b + ly_loc k i, ly_K G k i (M k i)) := by rw [gm_get h.2, ly_at h]
theorem ly_up {G : cx_T} {M : mm_T} {n k i : Nat} {f : Nat → Int32} (h : ly_ok n k i) : ly_cell G (mm_row M k i f) = va_up (ly_cell G M) (ly_loc k i) (ly_K G k i f) := by
  funext q
  unfold va_up
  by_cases hq : q = ly_loc k i
  · subst hq
    rw [if_pos rfl, ly_at h, mm_row_at]
  · rw [if_neg hq]
    have hne : ly_lay q ≠ (k, i) := fun e => hq (ly_inj (e.trans h.1.symm))
    unfold ly_cell
    by_cases h1 : (ly_lay q).1 = k
    · have h2 : (ly_lay q).2 ≠ i := fun e => hne (Prod.ext h1 e)
      rw [h1, mm_row_ni h2]
    · rw [mm_row_ne h1]
theorem ly_set {G : cx_T} {M : mm_T} {b n k i : Nat} {f : Nat → Int32} {e : va_E} (h : ly_ok n k i) (he : ly_K G k i f = e) : (gm_W b n (ly_cell G M)).set (ly_loc k i) (b + ly_loc k i, e) = gm_W b n (ly_cell G (mm_row M k i f)) := by
  rw [gm_set, ly_up h, he]
theorem ly_ok_0_0 : ∀ i, i < 9 → ly_lay (ly_loc 0 i) = (0, i) ∧ ly_loc 0 i < 111 := by decide +kernel
theorem ly_ok_0 {n i : Nat} (h : i < 9) (hn : 111 ≤ n) : ly_ok n 0 i := ⟨(ly_ok_0_0 i h).1, Nat.lt_of_lt_of_le (ly_ok_0_0 i h).2 hn⟩
theorem ly_ok_1_0 : ∀ i, i < 2 → ly_lay (ly_loc 1 i) = (1, i) ∧ ly_loc 1 i < 111 := by decide +kernel
theorem ly_ok_1 {n i : Nat} (h : i < 2) (hn : 111 ≤ n) : ly_ok n 1 i := ⟨(ly_ok_1_0 i h).1, Nat.lt_of_lt_of_le (ly_ok_1_0 i h).2 hn⟩
theorem ly_ok_2_0 : ∀ i, i < 16 → ly_lay (ly_loc 2 i) = (2, i) ∧ ly_loc 2 i < 111 := by decide +kernel
theorem ly_ok_2 {n i : Nat} (h : i < 16) (hn : 111 ≤ n) : ly_ok n 2 i := ⟨(ly_ok_2_0 i h).1, Nat.lt_of_lt_of_le (ly_ok_2_0 i h).2 hn⟩
theorem ly_ok_3_0 : ∀ i, i < 1 → ly_lay (ly_loc 3 i) = (3, i) ∧ ly_loc 3 i < 111 := by decide +kernel
theorem ly_ok_3 {n i : Nat} (h : i < 1) (hn : 111 ≤ n) : ly_ok n 3 i := ⟨(ly_ok_3_0 i h).1, Nat.lt_of_lt_of_le (ly_ok_3_0 i h).2 hn⟩
theorem ly_ok_4_0 : ∀ i, i < 1 → ly_lay (ly_loc 4 i) = (4, i) ∧ ly_loc 4 i < 111 := by decide +kernel
theorem ly_ok_4 {n i : Nat} (h : i < 1) (hn : 111 ≤ n) : ly_ok n 4 i := ⟨(ly_ok_4_0 i h).1, Nat.lt_of_lt_of_le (ly_ok_4_0 i h).2 hn⟩
theorem ly_ok_5_0 : ∀ i, i < 4 → ly_lay (ly_loc 5 i) = (5, i) ∧ ly_loc 5 i < 144 := by decide +kernel
theorem ly_ok_5 {n i : Nat} (h : i < 4) (hn : 144 ≤ n) : ly_ok n 5 i := ⟨(ly_ok_5_0 i h).1, Nat.lt_of_lt_of_le (ly_ok_5_0 i h).2 hn⟩
theorem ly_ok_6_0 : ∀ i, i < 14 → ly_lay (ly_loc 6 i) = (6, i) ∧ ly_loc 6 i < 111 := by decide +kernel
theorem ly_ok_6 {n i : Nat} (h : i < 14) (hn : 111 ≤ n) : ly_ok n 6 i := ⟨(ly_ok_6_0 i h).1, Nat.lt_of_lt_of_le (ly_ok_6_0 i h).2 hn⟩
theorem ly_ok_8_0 : ∀ i, i < 1 → ly_lay (ly_loc 8 i) = (8, i) ∧ ly_loc 8 i < 111 := by decide +kernel
theorem ly_ok_8 {n i : Nat} (h : i < 1) (hn : 111 ≤ n) : ly_ok n 8 i := ⟨(ly_ok_8_0 i h).1, Nat.lt_of_lt_of_le (ly_ok_8_0 i h).2 hn⟩
theorem ly_ok_9_0 : ∀ i, i < 1 → ly_lay (ly_loc 9 i) = (9, i) ∧ ly_loc 9 i < 144 := by decide +kernel
theorem ly_ok_9 {n i : Nat} (h : i < 1) (hn : 144 ≤ n) : ly_ok n 9 i := ⟨(ly_ok_9_0 i h).1, Nat.lt_of_lt_of_le (ly_ok_9_0 i h).2 hn⟩
theorem ly_ok_10_0 : ∀ i, i < 9 → ly_lay (ly_loc 10 i) = (10, i) ∧ ly_loc 10 i < 111 := by decide +kernel
theorem ly_ok_10 {n i : Nat} (h : i < 9) (hn : 111 ≤ n) : ly_ok n 10 i := ⟨(ly_ok_10_0 i h).1, Nat.lt_of_lt_of_le (ly_ok_10_0 i h).2 hn⟩
theorem ly_ok_11_0 : ∀ i, i < 9 → ly_lay (ly_loc 11 i) = (11, i) ∧ ly_loc 11 i < 111 := by decide +kernel
theorem ly_ok_11 {n i : Nat} (h : i < 9) (hn : 111 ≤ n) : ly_ok n 11 i := ⟨(ly_ok_11_0 i h).1, Nat.lt_of_lt_of_le (ly_ok_11_0 i h).2 hn⟩
theorem ly_ok_12_0 : ∀ i, i < 9 → ly_lay (ly_loc 12 i) = (12, i) ∧ ly_loc 12 i < 111 := by decide +kernel
theorem ly_ok_12 {n i : Nat} (h : i < 9) (hn : 111 ≤ n) : ly_ok n 12 i := ⟨(ly_ok_12_0 i h).1, Nat.lt_of_lt_of_le (ly_ok_12_0 i h).2 hn⟩
theorem ly_ok_13_0 : ∀ i, i < 9 → ly_lay (ly_loc 13 i) = (13, i) ∧ ly_loc 13 i < 111 := by decide +kernel
theorem ly_ok_13 {n i : Nat} (h : i < 9) (hn : 111 ≤ n) : ly_ok n 13 i := ⟨(ly_ok_13_0 i h).1, Nat.lt_of_lt_of_le (ly_ok_13_0 i h).2 hn⟩
theorem ly_ok_14_0 : ∀ i, i < 9 → ly_lay (ly_loc 14 i) = (14, i) ∧ ly_loc 14 i < 111 := by decide +kernel
theorem ly_ok_14 {n i : Nat} (h : i < 9) (hn : 111 ≤ n) : ly_ok n 14 i := ⟨(ly_ok_14_0 i h).1, Nat.lt_of_lt_of_le (ly_ok_14_0 i h).2 hn⟩
theorem ly_ok_15_0 : ∀ i, i < 9 → ly_lay (ly_loc 15 i) = (15, i) ∧ ly_loc 15 i < 111 := by decide +kernel
theorem ly_ok_15 {n i : Nat} (h : i < 9) (hn : 111 ≤ n) : ly_ok n 15 i := ⟨(ly_ok_15_0 i h).1, Nat.lt_of_lt_of_le (ly_ok_15_0 i h).2 hn⟩
theorem ly_ok_16_0 : ∀ i, i < 2 → ly_lay (ly_loc 16 i) = (16, i) ∧ ly_loc 16 i < 111 := by decide +kernel
theorem ly_ok_16 {n i : Nat} (h : i < 2) (hn : 111 ≤ n) : ly_ok n 16 i := ⟨(ly_ok_16_0 i h).1, Nat.lt_of_lt_of_le (ly_ok_16_0 i h).2 hn⟩
theorem ly_ok_17_0 : ∀ i, i < 2 → ly_lay (ly_loc 17 i) = (17, i) ∧ ly_loc 17 i < 111 := by decide +kernel
theorem ly_ok_17 {n i : Nat} (h : i < 2) (hn : 111 ≤ n) : ly_ok n 17 i := ⟨(ly_ok_17_0 i h).1, Nat.lt_of_lt_of_le (ly_ok_17_0 i h).2 hn⟩
theorem ly_ok_18_0 : ∀ i, i < 1 → ly_lay (ly_loc 18 i) = (18, i) ∧ ly_loc 18 i < 111 := by decide +kernel
theorem ly_ok_18 {n i : Nat} (h : i < 1) (hn : 111 ≤ n) : ly_ok n 18 i := ⟨(ly_ok_18_0 i h).1, Nat.lt_of_lt_of_le (ly_ok_18_0 i h).2 hn⟩
theorem ly_ok_19_0 : ∀ i, i < 1 → ly_lay (ly_loc 19 i) = (19, i) ∧ ly_loc 19 i < 111 := by decide +kernel
theorem ly_ok_19 {n i : Nat} (h : i < 1) (hn : 111 ≤ n) : ly_ok n 19 i := ⟨(ly_ok_19_0 i h).1, Nat.lt_of_lt_of_le (ly_ok_19_0 i h).2 hn⟩
theorem ly_ok_20_0 : ∀ i, i < 1 → ly_lay (ly_loc 20 i) = (20, i) ∧ ly_loc 20 i < 111 := by decide +kernel
theorem ly_ok_20 {n i : Nat} (h : i < 1) (hn : 111 ≤ n) : ly_ok n 20 i := ⟨(ly_ok_20_0 i h).1, Nat.lt_of_lt_of_le (ly_ok_20_0 i h).2 hn⟩
theorem ly_ok_21_0 : ∀ i, i < 1 → ly_lay (ly_loc 21 i) = (21, i) ∧ ly_loc 21 i < 111 := by decide +kernel
theorem ly_ok_21 {n i : Nat} (h : i < 1) (hn : 111 ≤ n) : ly_ok n 21 i := ⟨(ly_ok_21_0 i h).1, Nat.lt_of_lt_of_le (ly_ok_21_0 i h).2 hn⟩
theorem ly_ok_22_0 : ∀ i, i < 1 → ly_lay (ly_loc 22 i) = (22, i) ∧ ly_loc 22 i < 111 := by decide +kernel
theorem ly_ok_22 {n i : Nat} (h : i < 1) (hn : 111 ≤ n) : ly_ok n 22 i := ⟨(ly_ok_22_0 i h).1, Nat.lt_of_lt_of_le (ly_ok_22_0 i h).2 hn⟩
theorem ly_ok_23_0 : ∀ i, i < 1 → ly_lay (ly_loc 23 i) = (23, i) ∧ ly_loc 23 i < 111 := by decide +kernel
theorem ly_ok_23 {n i : Nat} (h : i < 1) (hn : 111 ≤ n) : ly_ok n 23 i := ⟨(ly_ok_23_0 i h).1, Nat.lt_of_lt_of_le (ly_ok_23_0 i h).2 hn⟩
theorem ly_ok_24_0 : ∀ i, i < 1 → ly_lay (ly_loc 24 i) = (24, i) ∧ ly_loc 24 i < 111 := by decide +kernel
theorem ly_ok_24 {n i : Nat} (h : i < 1) (hn : 111 ≤ n) : ly_ok n 24 i := ⟨(ly_ok_24_0 i h).1, Nat.lt_of_lt_of_le (ly_ok_24_0 i h).2 hn⟩
theorem ly_ok_25_0 : ∀ i, i < 1 → ly_lay (ly_loc 25 i) = (25, i) ∧ ly_loc 25 i < 111 := by decide +kernel
theorem ly_ok_25 {n i : Nat} (h : i < 1) (hn : 111 ≤ n) : ly_ok n 25 i := ⟨(ly_ok_25_0 i h).1, Nat.lt_of_lt_of_le (ly_ok_25_0 i h).2 hn⟩
theorem ly_ok_26_0 : ∀ i, i < 1 → ly_lay (ly_loc 26 i) = (26, i) ∧ ly_loc 26 i < 111 := by decide +kernel
theorem ly_ok_26 {n i : Nat} (h : i < 1) (hn : 111 ≤ n) : ly_ok n 26 i := ⟨(ly_ok_26_0 i h).1, Nat.lt_of_lt_of_le (ly_ok_26_0 i h).2 hn⟩
theorem ly_ok_27_0 : ∀ i, i < 4 → ly_lay (ly_loc 27 i) = (27, i) ∧ ly_loc 27 i < 144 := by decide +kernel
theorem ly_ok_27 {n i : Nat} (h : i < 4) (hn : 144 ≤ n) : ly_ok n 27 i := ⟨(ly_ok_27_0 i h).1, Nat.lt_of_lt_of_le (ly_ok_27_0 i h).2 hn⟩
theorem ly_ok_30_0 : ∀ i, i < 1 → ly_lay (ly_loc 30 i) = (30, i) ∧ ly_loc 30 i < 144 := by decide +kernel
theorem ly_ok_30 {n i : Nat} (h : i < 1) (hn : 144 ≤ n) : ly_ok n 30 i := ⟨(ly_ok_30_0 i h).1, Nat.lt_of_lt_of_le (ly_ok_30_0 i h).2 hn⟩
theorem ly_ok_31_0 : ∀ i, i < 1 → ly_lay (ly_loc 31 i) = (31, i) ∧ ly_loc 31 i < 144 := by decide +kernel
theorem ly_ok_31 {n i : Nat} (h : i < 1) (hn : 144 ≤ n) : ly_ok n 31 i := ⟨(ly_ok_31_0 i h).1, Nat.lt_of_lt_of_le (ly_ok_31_0 i h).2 hn⟩
theorem ly_ok_32_0 : ∀ i, i < 1 → ly_lay (ly_loc 32 i) = (32, i) ∧ ly_loc 32 i < 144 := by decide +kernel
theorem ly_ok_32 {n i : Nat} (h : i < 1) (hn : 144 ≤ n) : ly_ok n 32 i := ⟨(ly_ok_32_0 i h).1, Nat.lt_of_lt_of_le (ly_ok_32_0 i h).2 hn⟩
theorem ly_ok_33_0 : ∀ i, i < 1 → ly_lay (ly_loc 33 i) = (33, i) ∧ ly_loc 33 i < 144 := by decide +kernel
theorem ly_ok_33 {n i : Nat} (h : i < 1) (hn : 144 ≤ n) : ly_ok n 33 i := ⟨(ly_ok_33_0 i h).1, Nat.lt_of_lt_of_le (ly_ok_33_0 i h).2 hn⟩
theorem ly_ok_34_0 : ∀ i, i < 1 → ly_lay (ly_loc 34 i) = (34, i) ∧ ly_loc 34 i < 144 := by decide +kernel
theorem ly_ok_34 {n i : Nat} (h : i < 1) (hn : 144 ≤ n) : ly_ok n 34 i := ⟨(ly_ok_34_0 i h).1, Nat.lt_of_lt_of_le (ly_ok_34_0 i h).2 hn⟩
theorem ly_ok_35_0 : ∀ i, i < 1 → ly_lay (ly_loc 35 i) = (35, i) ∧ ly_loc 35 i < 144 := by decide +kernel
theorem ly_ok_35 {n i : Nat} (h : i < 1) (hn : 144 ≤ n) : ly_ok n 35 i := ⟨(ly_ok_35_0 i h).1, Nat.lt_of_lt_of_le (ly_ok_35_0 i h).2 hn⟩
theorem ly_ok_36_0 : ∀ i, i < 1 → ly_lay (ly_loc 36 i) = (36, i) ∧ ly_loc 36 i < 144 := by decide +kernel
theorem ly_ok_36 {n i : Nat} (h : i < 1) (hn : 144 ≤ n) : ly_ok n 36 i := ⟨(ly_ok_36_0 i h).1, Nat.lt_of_lt_of_le (ly_ok_36_0 i h).2 hn⟩
theorem ly_ok_37_0 : ∀ i, i < 1 → ly_lay (ly_loc 37 i) = (37, i) ∧ ly_loc 37 i < 144 := by decide +kernel
theorem ly_ok_37 {n i : Nat} (h : i < 1) (hn : 144 ≤ n) : ly_ok n 37 i := ⟨(ly_ok_37_0 i h).1, Nat.lt_of_lt_of_le (ly_ok_37_0 i h).2 hn⟩
theorem ly_ok_38_0 : ∀ i, i < 1 → ly_lay (ly_loc 38 i) = (38, i) ∧ ly_loc 38 i < 144 := by decide +kernel
theorem ly_ok_38 {n i : Nat} (h : i < 1) (hn : 144 ≤ n) : ly_ok n 38 i := ⟨(ly_ok_38_0 i h).1, Nat.lt_of_lt_of_le (ly_ok_38_0 i h).2 hn⟩
theorem ly_ok_39_0 : ∀ i, i < 1 → ly_lay (ly_loc 39 i) = (39, i) ∧ ly_loc 39 i < 144 := by decide +kernel
theorem ly_ok_39 {n i : Nat} (h : i < 1) (hn : 144 ≤ n) : ly_ok n 39 i := ⟨(ly_ok_39_0 i h).1, Nat.lt_of_lt_of_le (ly_ok_39_0 i h).2 hn⟩
theorem ly_ok_40_0 : ∀ i, i < 1 → ly_lay (ly_loc 40 i) = (40, i) ∧ ly_loc 40 i < 144 := by decide +kernel
theorem ly_ok_40 {n i : Nat} (h : i < 1) (hn : 144 ≤ n) : ly_ok n 40 i := ⟨(ly_ok_40_0 i h).1, Nat.lt_of_lt_of_le (ly_ok_40_0 i h).2 hn⟩
theorem ly_ok_41_0 : ∀ i, i < 1 → ly_lay (ly_loc 41 i) = (41, i) ∧ ly_loc 41 i < 144 := by decide +kernel
theorem ly_ok_41 {n i : Nat} (h : i < 1) (hn : 144 ≤ n) : ly_ok n 41 i := ⟨(ly_ok_41_0 i h).1, Nat.lt_of_lt_of_le (ly_ok_41_0 i h).2 hn⟩
theorem ly_ok_42_0 : ∀ i, i < 1 → ly_lay (ly_loc 42 i) = (42, i) ∧ ly_loc 42 i < 144 := by decide +kernel
theorem ly_ok_42 {n i : Nat} (h : i < 1) (hn : 144 ≤ n) : ly_ok n 42 i := ⟨(ly_ok_42_0 i h).1, Nat.lt_of_lt_of_le (ly_ok_42_0 i h).2 hn⟩
theorem ly_ok_43_0 : ∀ i, i < 1 → ly_lay (ly_loc 43 i) = (43, i) ∧ ly_loc 43 i < 144 := by decide +kernel
theorem ly_ok_43 {n i : Nat} (h : i < 1) (hn : 144 ≤ n) : ly_ok n 43 i := ⟨(ly_ok_43_0 i h).1, Nat.lt_of_lt_of_le (ly_ok_43_0 i h).2 hn⟩
theorem ly_ok_44_0 : ∀ i, i < 1 → ly_lay (ly_loc 44 i) = (44, i) ∧ ly_loc 44 i < 144 := by decide +kernel
theorem ly_ok_44 {n i : Nat} (h : i < 1) (hn : 144 ≤ n) : ly_ok n 44 i := ⟨(ly_ok_44_0 i h).1, Nat.lt_of_lt_of_le (ly_ok_44_0 i h).2 hn⟩
theorem ly_ok_45_0 : ∀ i, i < 1 → ly_lay (ly_loc 45 i) = (45, i) ∧ ly_loc 45 i < 144 := by decide +kernel
theorem ly_ok_45 {n i : Nat} (h : i < 1) (hn : 144 ≤ n) : ly_ok n 45 i := ⟨(ly_ok_45_0 i h).1, Nat.lt_of_lt_of_le (ly_ok_45_0 i h).2 hn⟩
theorem ly_ok_46_0 : ∀ i, i < 1 → ly_lay (ly_loc 46 i) = (46, i) ∧ ly_loc 46 i < 144 := by decide +kernel
theorem ly_ok_46 {n i : Nat} (h : i < 1) (hn : 144 ≤ n) : ly_ok n 46 i := ⟨(ly_ok_46_0 i h).1, Nat.lt_of_lt_of_le (ly_ok_46_0 i h).2 hn⟩
theorem ly_ok_47_0 : ∀ i, i < 1 → ly_lay (ly_loc 47 i) = (47, i) ∧ ly_loc 47 i < 144 := by decide +kernel
theorem ly_ok_47 {n i : Nat} (h : i < 1) (hn : 144 ≤ n) : ly_ok n 47 i := ⟨(ly_ok_47_0 i h).1, Nat.lt_of_lt_of_le (ly_ok_47_0 i h).2 hn⟩
theorem ly_ok_48_0 : ∀ i, i < 1 → ly_lay (ly_loc 48 i) = (48, i) ∧ ly_loc 48 i < 144 := by decide +kernel
theorem ly_ok_48 {n i : Nat} (h : i < 1) (hn : 144 ≤ n) : ly_ok n 48 i := ⟨(ly_ok_48_0 i h).1, Nat.lt_of_lt_of_le (ly_ok_48_0 i h).2 hn⟩
theorem ly_ok_49_0 : ∀ i, i < 1 → ly_lay (ly_loc 49 i) = (49, i) ∧ ly_loc 49 i < 144 := by decide +kernel
theorem ly_ok_49 {n i : Nat} (h : i < 1) (hn : 144 ≤ n) : ly_ok n 49 i := ⟨(ly_ok_49_0 i h).1, Nat.lt_of_lt_of_le (ly_ok_49_0 i h).2 hn⟩
theorem ly_ok_50_0 : ∀ i, i < 1 → ly_lay (ly_loc 50 i) = (50, i) ∧ ly_loc 50 i < 144 := by decide +kernel
theorem ly_ok_50 {n i : Nat} (h : i < 1) (hn : 144 ≤ n) : ly_ok n 50 i := ⟨(ly_ok_50_0 i h).1, Nat.lt_of_lt_of_le (ly_ok_50_0 i h).2 hn⟩
theorem ly_ok_7 {n t : Nat} (h : 3 * t + 144 ≤ n) : ly_ok n 7 t := by
  have hl : ly_loc 7 t = if t = 0 then 111 else 141 + 3 * t := rfl
  unfold ly_ok
  by_cases h0 : t = 0
  · subst h0; exact ⟨by decide +kernel, Nat.lt_of_lt_of_le (show ly_loc 7 0 < 144 by decide +kernel) (by omega)⟩
  · rw [hl, if_neg h0]
    refine ⟨?_, by omega⟩
    unfold ly_lay
    rw [if_neg (by omega)]
    have e1 : (141 + 3 * t - 144) % 3 = 0 := by omega
    have e2 : (141 + 3 * t - 144) / 3 + 1 = t := by omega
    rw [e1, e2]
    rfl
theorem ly_ok_28 {n t : Nat} (h : 3 * t + 144 ≤ n) : ly_ok n 28 t := by
  have hl : ly_loc 28 t = if t = 0 then 112 else 142 + 3 * t := rfl
  unfold ly_ok
  by_cases h0 : t = 0
  · subst h0; exact ⟨by decide +kernel, Nat.lt_of_lt_of_le (show ly_loc 28 0 < 144 by decide +kernel) (by omega)⟩
  · rw [hl, if_neg h0]
    refine ⟨?_, by omega⟩
    unfold ly_lay
    rw [if_neg (by omega)]
    have e1 : (142 + 3 * t - 144) % 3 = 1 := by omega
    have e2 : (142 + 3 * t - 144) / 3 + 1 = t := by omega
    rw [e1, e2]
    rfl
theorem ly_ok_29 {n t : Nat} (h : 3 * t + 144 ≤ n) : ly_ok n 29 t := by
  have hl : ly_loc 29 t = if t = 0 then 113 else 143 + 3 * t := rfl
  unfold ly_ok
  by_cases h0 : t = 0
  · subst h0; exact ⟨by decide +kernel, Nat.lt_of_lt_of_le (show ly_loc 29 0 < 144 by decide +kernel) (by omega)⟩
  · rw [hl, if_neg h0]
    refine ⟨?_, by omega⟩
    unfold ly_lay
    rw [if_neg (by omega)]
    have e1 : (143 + 3 * t - 144) % 3 = 2 := by omega
    have e2 : (143 + 3 * t - 144) / 3 + 1 = t := by omega
    rw [e1, e2]
    rfl
abbrev cx_t (G : cx_T) : List (ClassId × FieldType) := [(cx_c G 0, .int), (cx_c G 1, .boolean), (cx_c G 2, .object "WhoSingsNext$Person"), (cx_c G 3, .object "WhoSingsNext$Slip"), (cx_c G 4, .object "WhoSingsNext$Text"), (cx_c G 5, .object "WhoSingsNext$Evening"), (cx_c G 6, .object "WhoSingsNext$Sheet")]
