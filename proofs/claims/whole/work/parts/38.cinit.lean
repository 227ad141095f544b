def ci_B : List Int32 := [98, 101, 97, 114, 115, 32, 49, 48, 32, 59, 32, 116, 97, 107, 101, 115, 32, 50, 32, 43, 32, 109, 111, 111, 100, 32, 59, 32, 102, 105, 114, 115, 116, 32, 119, 97, 105, 116, 101, 100, 32, 45, 32, 115, 117, 110, 103, 32, 42, 32, 57, 32, 59]
/-- the memory of a new object of the class -/
def ci_z : mm_T := fun k _ j => if k = 0 then (if j = 1 then -1 else 0) else if k = 1 then (if j = 5 then 60 else 0) else if k = 4 then (if j = 6 then -1 else 0) else if k = 20 then -1 else if k = 26 then -1 else 0
def ci_I (t : Nat) : mm_T := fun k i j => if k = 18 then (if i = 0 then (if j < t then ci_B.getD j 0 else 0) else 0) else if k = 3 then (if i = 0 then (if j = 1 then nI t else 0) else 0) else ci_z k i j
theorem ci_0 : ci_I 0 = ci_z := by
  funext k i j
  unfold ci_I ci_z
  by_cases h : k = 18
  · subst h; simp
  · by_cases h2 : k = 3
    · subst h2; simp [nI_0]
    · rw [if_neg h, if_neg h2]
theorem ci_add {N n t : Nat} (h : t < 53) : f_X3_add N n (ci_I t) (ci_B.getD t 0) = some (ci_I (t + 1), 1) := by
  have e1 : ci_I t 3 0 1 = nI t := by unfold ci_I; simp
  unfold f_X3_add
  rw [e1, if_pos (show nI t < 160 from nI_lt (b := 160) (by omega) (by decide))]
  unfold pz_gd
  rw [if_pos (ix_nI (by omega) (by decide)), nI_clamp (by omega)]
  unfold pz_lt
  have e2 : mm_up (ci_I t) 18 0 t (ci_B.getD t 0) 3 0 1 = nI t := by rw [mm_up_ne (by decide)]; exact e1
  dsimp only
  rw [e2, nI_1]
  congr 2
  funext k i j
  by_cases h3 : k = 3
  · subst h3
    by_cases hi : i = 0
    · subst hi
      rw [mm_up_at]
      unfold upd
      by_cases hj : j = 1
      · subst hj; unfold ci_I; simp
      · rw [if_neg hj, mm_up_ne (by decide)]; unfold ci_I; simp [hj]
    · rw [mm_up_ni hi, mm_up_ne (by decide)]; unfold ci_I; simp [hi]
  · rw [mm_up_ne h3]
    by_cases h18 : k = 18
    · subst h18
      by_cases hi : i = 0
      · subst hi
        rw [mm_up_at]
        unfold upd
        by_cases hj : j = t
        · subst hj; unfold ci_I; simp
        · rw [if_neg hj]
          unfold ci_I
          simp only [if_true]
          by_cases hjt : j < t
          · rw [if_pos hjt, if_pos (by omega)]
          · rw [if_neg hjt, if_neg (by omega)]
      · rw [mm_up_ni hi]; unfold ci_I; simp [hi]
    · rw [mm_up_ne h18]; unfold ci_I; rw [if_neg h18, if_neg h3, if_neg h18, if_neg h3]
def ci_R : mm_T := ((f_X3_readTape 200 111 (ci_I 53)).getD (ci_z, 0)).1
theorem ci_r : f_X3_readTape 200 111 (ci_I 53) = some (ci_R, 1) := by
  have h : (f_X3_readTape 200 111 (ci_I 53)).map (fun z => z.2) = some 1 := by decide +kernel
  unfold ci_R
  cases hq : f_X3_readTape 200 111 (ci_I 53) with
  | none => rw [hq] at h; cases h
  | some z =>
    rw [hq] at h
    have h2 : z.2 = 1 := Option.some.inj h
    rw [Option.getD_some, ← h2]
theorem ci_g : ix_in (ci_R 3 0 3) 160 = true := by decide +kernel
def ci_T : Nat → mm_T
  | 0 => md_I ci_R 0
  | t + 1 => mm_up (ci_T t) 20 0 t 0
def ci_5 : Nat → Int32 := fun j => if j = 1 then -1 else 0
def ci_U : Nat → mm_T
  | 0 => mm_up (ci_T 6) 8 0 5 1
  | t + 1 => mm_up (mm_row (mm_row (ci_U t) 5 t ci_5) 27 t (fun _ => 0)) 26 0 t 0
abbrev ci_C : mm_T := ci_U 4
theorem ci_len : f_J0_length_8abf5 0 0 = some (nI 53) := by decide +kernel
theorem ci_chr : ∀ t, t < 53 → f_J0_charAt_5068e 0 0 (nI t) = some (ci_B.getD t 0) := by decide +kernel
def ce_v (e e2 : va_E) : Prop := e = e2 ∨ ∃ (cA : ClassId) (L : Nat) (f c : Nat → Option Nat), e = .inl (cA, L, .inr (.inr (.inr (.inr f)))) ∧ e2 = .inl (cA, L, .inr (.inr (.inr (.inr c)))) ∧ ∀ i, i < L → f i = c i
theorem arr_congq {cA : ClassId} {L : Nat} {f c : Nat → Option Nat} (h : ∀ i, i < L → f i = c i) : vp_cell cA (L, .inr (.inr (.inr (.inr f)))) = vp_cell cA (L, .inr (.inr (.inr (.inr c)))) := by
  rw [vp_cell_q, vp_cell_q]
  unfold arrV
  congr 2
  funext j
  show va_rf (f j.val) = va_rf (c j.val)
  rw [h j.val j.isLt]
theorem gm_cellq {D : va_G} {b n : Nat} {M M' : Nat → va_E} {H : Heap} (h : ∀ j, j < n → ce_v (M j) (M' j)) (hP : va_P D vwCl (gm_W b n M) H) : va_P D vwCl (gm_W b n M') H := by
  intro k q hk
  obtain ⟨hkn, rfl⟩ := gm_lt hk
  have h1 := hP k _ (gm_get (M := M) hkn)
  rcases h k hkn with e | ⟨cA, L, f, c, e1, e2, e3⟩
  · rw [e] at h1; exact h1
  · have h2 : va_at D vwCl (b + k, M k) H := h1
    show va_at D vwCl (b + k, M' k) H
    rw [e1] at h2
    rw [e2]
    have h3 : H[b + k]? = some (vp_cell cA (L, .inr (.inr (.inr (.inr f))))) := h2
    show H[b + k]? = some (vp_cell cA (L, .inr (.inr (.inr (.inr c)))))
    rw [← arr_congq e3]
    exact h3
def ch_M (G : cx_T) (M : Nat → va_E) : Nat → va_E := va_up (va_up (va_up (ss_M G (va_up (va_up (mk_X0 G (va_up (va_up (va_up (va_up (mk_X3 G (va_up (va_up (hs_M G (va_up (va_up (hs_M G (va_up (M) 1 (.inr (1, [.null, .null, .int 0, .int 0, .int 0, .int 0, .int 0, .int 0]))) 1 2 8 7) 0 (.inr (8, [.ref (cx_b G + 1), .null, .int 0, .null, .null, .int 0, .null, .null, .null]))) 19 (.inr (1, [.null, .null, .int 0, .int 0, .int 0, .int 0, .int 0, .int 0]))) 19 20 8 7) 0 (.inr (8, [.ref (cx_b G + 1), .ref (cx_b G + 19), .int 0, .null, .null, .int 0, .null, .null, .null]))) 37 (.inr (3, [.null, .int 0, .null, .int 0, .int 0, .int 0, .int 0, .int 0, .int 0, .int 0, .int 0]))) 37 38) 0 (.inr (8, [.ref (cx_b G + 1), .ref (cx_b G + 19), .int 0, .ref (cx_b G + 37), .null, .int 0, .null, .null, .null]))) 40 (.inl (cx_c G 4, 6, .inr (.inr (.inr (.inr (fun _ => none))))))) 0 (.inr (8, [.ref (cx_b G + 1), .ref (cx_b G + 19), .int 0, .ref (cx_b G + 37), .ref (cx_b G + 40), .int 0, .null, .null, .null]))) 41 (.inr (0, [.null, .null, .null, .null, .null, .null, .null, .int 0, .null, .int 0, .int 0, .int 0, .int 0, .int 0, .int 0, .int 0]))) 41 42 1) 0 (.inr (8, [.ref (cx_b G + 1), .ref (cx_b G + 19), .int 0, .ref (cx_b G + 37), .ref (cx_b G + 40), .int 0, .ref (cx_b G + 41), .null, .null]))) 48 (.inr (4, [.null, .null, .null, .null, .null, .null, .int 0]))) 48 49 1 8) 0 (.inr (8, [.ref (cx_b G + 1), .ref (cx_b G + 19), .int 0, .ref (cx_b G + 37), .ref (cx_b G + 40), .int 0, .ref (cx_b G + 41), .ref (cx_b G + 48), .null]))) 110 (.inl (cx_c G 6, 4, .inr (.inr (.inr (.inr (fun _ => none))))))) 0 (.inr (8, [.ref (cx_b G + 1), .ref (cx_b G + 19), .int 0, .ref (cx_b G + 37), .ref (cx_b G + 40), .int 0, .ref (cx_b G + 41), .ref (cx_b G + 48), .ref (cx_b G + 110)]))
set_option maxRecDepth 100000 in
set_option maxHeartbeats 8000000 in
theorem ch_eq {G : cx_T} {M : Nat → va_E} {J : mm_T} : ∀ j, j < 111 → ce_v (ch_M G M j) (ly_cell G (mm_mx ci_z J) j) := by
  intro j hj
  match j, hj with
  | 0, _ => exact Or.inl rfl
  | 1, _ => exact Or.inl rfl
  | 2, _ => exact Or.inr ⟨_, _, _, _, rfl, rfl, fun i hi => match i, hi with | 0, _ => rfl | 1, _ => rfl | 2, _ => rfl | 3, _ => rfl | 4, _ => rfl | 5, _ => rfl | 6, _ => rfl | 7, _ => rfl | i + 8, hi => absurd hi (by omega)⟩
  | 3, _ => exact Or.inr ⟨_, _, _, _, rfl, rfl, fun i hi => match i, hi with | 0, _ => rfl | 1, _ => rfl | 2, _ => rfl | 3, _ => rfl | 4, _ => rfl | 5, _ => rfl | 6, _ => rfl | i + 7, hi => absurd hi (by omega)⟩
  | 4, _ => exact Or.inl rfl
  | 5, _ => exact Or.inl rfl
  | 6, _ => exact Or.inl rfl
  | 7, _ => exact Or.inl rfl
  | 8, _ => exact Or.inl rfl
  | 9, _ => exact Or.inl rfl
  | 10, _ => exact Or.inl rfl
  | 11, _ => exact Or.inl rfl
  | 12, _ => exact Or.inl rfl
  | 13, _ => exact Or.inl rfl
  | 14, _ => exact Or.inl rfl
  | 15, _ => exact Or.inl rfl
  | 16, _ => exact Or.inl rfl
  | 17, _ => exact Or.inl rfl
  | 18, _ => exact Or.inl rfl
  | 19, _ => exact Or.inl rfl
  | 20, _ => exact Or.inr ⟨_, _, _, _, rfl, rfl, fun i hi => match i, hi with | 0, _ => rfl | 1, _ => rfl | 2, _ => rfl | 3, _ => rfl | 4, _ => rfl | 5, _ => rfl | 6, _ => rfl | 7, _ => rfl | i + 8, hi => absurd hi (by omega)⟩
  | 21, _ => exact Or.inr ⟨_, _, _, _, rfl, rfl, fun i hi => match i, hi with | 0, _ => rfl | 1, _ => rfl | 2, _ => rfl | 3, _ => rfl | 4, _ => rfl | 5, _ => rfl | 6, _ => rfl | i + 7, hi => absurd hi (by omega)⟩
  | 22, _ => exact Or.inl rfl
  | 23, _ => exact Or.inl rfl
  | 24, _ => exact Or.inl rfl
  | 25, _ => exact Or.inl rfl
  | 26, _ => exact Or.inl rfl
  | 27, _ => exact Or.inl rfl
  | 28, _ => exact Or.inl rfl
  | 29, _ => exact Or.inl rfl
  | 30, _ => exact Or.inl rfl
  | 31, _ => exact Or.inl rfl
  | 32, _ => exact Or.inl rfl
  | 33, _ => exact Or.inl rfl
  | 34, _ => exact Or.inl rfl
  | 35, _ => exact Or.inl rfl
  | 36, _ => exact Or.inl rfl
  | 37, _ => exact Or.inl rfl
  | 38, _ => exact Or.inl rfl
  | 39, _ => exact Or.inl rfl
  | 40, _ => exact Or.inl rfl
  | 41, _ => exact Or.inl rfl
  | 42, _ => exact Or.inl rfl
  | 43, _ => exact Or.inl rfl
  | 44, _ => exact Or.inl rfl
  | 45, _ => exact Or.inl rfl
  | 46, _ => exact Or.inl rfl
  | 47, _ => exact Or.inl rfl
  | 48, _ => exact Or.inl rfl
  | 49, _ => exact Or.inr ⟨_, _, _, _, rfl, rfl, fun i hi => match i, hi with | 0, _ => rfl | 1, _ => rfl | 2, _ => rfl | 3, _ => rfl | 4, _ => rfl | 5, _ => rfl | 6, _ => rfl | 7, _ => rfl | i + 8, hi => absurd hi (by omega)⟩
  | 50, _ => exact Or.inl rfl
  | 51, _ => exact Or.inl rfl
  | 52, _ => exact Or.inl rfl
  | 53, _ => exact Or.inl rfl
  | 54, _ => exact Or.inl rfl
  | 55, _ => exact Or.inl rfl
  | 56, _ => exact Or.inl rfl
  | 57, _ => exact Or.inl rfl
  | 58, _ => exact Or.inl rfl
  | 59, _ => exact Or.inl rfl
  | 60, _ => exact Or.inl rfl
  | 61, _ => exact Or.inl rfl
  | 62, _ => exact Or.inl rfl
  | 63, _ => exact Or.inl rfl
  | 64, _ => exact Or.inl rfl
  | 65, _ => exact Or.inl rfl
  | 66, _ => exact Or.inl rfl
  | 67, _ => exact Or.inl rfl
  | 68, _ => exact Or.inl rfl
  | 69, _ => exact Or.inl rfl
  | 70, _ => exact Or.inl rfl
  | 71, _ => exact Or.inl rfl
  | 72, _ => exact Or.inl rfl
  | 73, _ => exact Or.inl rfl
  | 74, _ => exact Or.inl rfl
  | 75, _ => exact Or.inl rfl
  | 76, _ => exact Or.inl rfl
  | 77, _ => exact Or.inl rfl
  | 78, _ => exact Or.inl rfl
  | 79, _ => exact Or.inl rfl
  | 80, _ => exact Or.inl rfl
  | 81, _ => exact Or.inl rfl
  | 82, _ => exact Or.inl rfl
  | 83, _ => exact Or.inl rfl
  | 84, _ => exact Or.inl rfl
  | 85, _ => exact Or.inl rfl
  | 86, _ => exact Or.inl rfl
  | 87, _ => exact Or.inl rfl
  | 88, _ => exact Or.inl rfl
  | 89, _ => exact Or.inl rfl
  | 90, _ => exact Or.inl rfl
  | 91, _ => exact Or.inl rfl
  | 92, _ => exact Or.inl rfl
  | 93, _ => exact Or.inl rfl
  | 94, _ => exact Or.inl rfl
  | 95, _ => exact Or.inl rfl
  | 96, _ => exact Or.inl rfl
  | 97, _ => exact Or.inl rfl
  | 98, _ => exact Or.inl rfl
  | 99, _ => exact Or.inl rfl
  | 100, _ => exact Or.inl rfl
  | 101, _ => exact Or.inl rfl
  | 102, _ => exact Or.inl rfl
  | 103, _ => exact Or.inl rfl
  | 104, _ => exact Or.inl rfl
  | 105, _ => exact Or.inl rfl
  | 106, _ => exact Or.inl rfl
  | 107, _ => exact Or.inl rfl
  | 108, _ => exact Or.inl rfl
  | 109, _ => exact Or.inl rfl
  | 110, _ => exact Or.inl rfl
  | j + 111, hj => exact absurd hj (by omega)
theorem sh_a {G : cx_T} {c : Nat → Int32} {t : Nat} : va_up (fun j => if c j = -1 then none else some (cx_b G + ly_loc 5 j)) t (some (cx_b G + (114 + 2 * t))) = fun j => if upd c t 0 j = -1 then none else some (cx_b G + ly_loc 5 j) := by
  funext j
  unfold va_up upd
  by_cases h : j = t
  · subst h; rw [if_pos rfl, if_pos rfl, if_neg (by decide)]; rfl
  · rw [if_neg h, if_neg h]
theorem tx_a {G : cx_T} {c : Nat → Int32} {t : Nat} : va_up (fun j => if c j = -1 then none else some (cx_b G + ly_loc 7 (c j).toNatClampNeg)) t (some (cx_b G + ly_loc 7 0)) = fun j => if upd c t 0 j = -1 then none else some (cx_b G + ly_loc 7 (upd c t 0 j).toNatClampNeg) := by
  funext j
  unfold va_up upd
  by_cases h : j = t
  · subst h; rw [if_pos rfl, if_pos rfl, if_neg (by decide)]; rfl
  · rw [if_neg h, if_neg h]
theorem sh_w {G : cx_T} {I J : mm_T} {t : Nat} (ht : t < 4) {M : Nat → va_E} (hM : ∀ i, i < 114 + 2 * t → M i = ly_cell G (mm_mx I J) i) {j : Nat} (hj : j < 114 + 2 * t + 1 + 1) : mk_X5 G M (114 + 2 * t) (114 + 2 * t + 1) j = ly_cell G (mm_mx (mm_row (mm_row I 5 t ci_5) 27 t (fun _ => 0)) J) j := by
  have o5 : ly_ok (114 + 2 * t + 2) 5 t := ⟨(ly_ok_5_0 t ht).1, by show 114 + 2 * t < _; omega⟩
  have o27 : ly_ok (114 + 2 * t + 2) 27 t := ⟨(ly_ok_27_0 t ht).1, by show 115 + 2 * t < _; omega⟩
  have e5 : ly_loc 5 t = 114 + 2 * t := rfl
  have e27 : ly_loc 27 t = 114 + 2 * t + 1 := by show 115 + 2 * t = _; omega
  rw [mm_mx_rowI rfl, ly_up o27, mm_mx_rowI rfl, ly_up o5, e5, e27]
  rcases Nat.lt_or_ge j (114 + 2 * t) with q | q
  · rw [mk_X5_old (by omega) (by omega), up_ne (by omega), up_ne (by omega)]; exact hM j q
  · rcases (show j = 114 + 2 * t ∨ j = 114 + 2 * t + 1 by omega) with q | q
    · rw [q, mk_X5_at (by omega), up_ne (by omega), up_at rfl]
      show _ = Sum.inr (5, [Value.ref (cx_b G + ly_loc 27 t), Value.int (ci_5 1), Value.int (ci_5 2)])
      rw [e27]; rfl
    · rw [q, up_at rfl]
      unfold mk_X5
      rw [up_ne (by omega), up_ne (by omega), up_at rfl]; rfl
set_option maxRecDepth 100000 in
set_option maxHeartbeats 4000000 in
theorem kw_X8_159 {l : Launch} {G : cx_T} {p : Program} {e : Env} {s : State} {m : MethodId} {args : Array Value} {below : List Frame} {meth : Method} {c : Code} {J : mm_T} (X : cx_oi G p s m args meth c cX8_init 3 RX8 none) (hsz : s.heap.size = cx_b G + 1) {T U : Nat → mm_T} {Rm : mm_T} (hr : f_X3_readTape 200 111 (ci_I 53) = some (Rm, 1)) (hg : ix_in (Rm 3 0 3) 160 = true) (hT0 : T 0 = md_I Rm 0) (hT : ∀ t, T (t + 1) = mm_up (T t) 20 0 t 0) (hU0 : U 0 = mm_up (T 6) 8 0 5 1) (hU : ∀ t, U (t + 1) = mm_up (mm_row (mm_row (U t) 5 t ci_5) 27 t (fun _ => 0)) 26 0 t 0) : ∀ (cnt q : Nat) {x : Int32} {H : Heap} {locs : List Loc} {ls : Array Slot}, 4 ≤ q + cnt → q ≤ 4 → x = nI q → sg_ok G 1 (114 + 2 * q) (ly_cell G (mm_mx (U q) J)) s H locs (113 + 2 * q) → lv_has ls 3 [(2, .int x), (0, .ref (cx_b G + 0)), (1, .ref (cx_b G + ly_loc 7 0))] → W p l e ({ frames := 300, cells := 121, slots := 1405, locals := 20000 }) s m args below meth c H locs (113 + 2 * q) (1233 + 43 * q) (MQ below (cg_qv G 122 (ly_cell G (mm_mx (U 4) J))) args s 121 1405 (cx_A G)) (F0 m 159 ls []) := by
  intro cnt
  induction cnt with
  | zero =>
    intro q x H locs ls h1 h2 ex S hl
    refine lv_iload_n X.1.1 X.1.2.1 dX8_init_159 rfl (lv_at hl 0 rfl) ?_
    refine lv_iconst (v := 4) X.1.1 X.1.2.1 dX8_init_160 (by decide) ?_
    refine lv_icmp_ge (tgt := 183) X.1.1 X.1.2.1 dX8_init_161 (by decide) (fun cq => ?_) (fun cq => ?_)
    · have hj : q = 4 := by
        rcases Nat.lt_or_ge q 4 with q9 | q9
        · exact absurd (show nI 4 ≤ nI q by rw [← ex]; exact cq) (nI_ge q9 (by decide))
        · omega
      subst hj
      exact sg_vret X S rfl (fun _ _ => rfl) dX8_init_183
    · exact absurd (show nI 4 ≤ x by rw [ex]; exact nI_le (by omega) (by omega)) cq
  | succ cnt ih =>
    intro q x H locs ls h1 h2 ex S hl
    refine lv_iload_n X.1.1 X.1.2.1 dX8_init_159 rfl (lv_at hl 0 rfl) ?_
    refine lv_iconst (v := 4) X.1.1 X.1.2.1 dX8_init_160 (by decide) ?_
    refine lv_icmp_ge (tgt := 183) X.1.1 X.1.2.1 dX8_init_161 (by decide) (fun cq => ?_) (fun cq => ?_)
    · have hj : q = 4 := by
        rcases Nat.lt_or_ge q 4 with q9 | q9
        · exact absurd (show nI 4 ≤ nI q by rw [← ex]; exact cq) (nI_ge q9 (by decide))
        · omega
      subst hj
      exact sg_vret X S rfl (fun _ _ => rfl) dX8_init_183
    · have hj : q < 4 := by
        rcases Nat.lt_or_ge q 4 with q9 | q9
        · exact q9
        · exact absurd (show nI 4 ≤ x by rw [ex]; exact nI_le q9 (by omega)) cq
      have o8 : ly_ok (114 + 2 * q) 8 0 := ly_ok_8 (by decide) (by omega)
      have o26 : ly_ok (114 + 2 * q) 26 0 := ly_ok_26 (by decide) (by omega)
      refine lv_aload_n X.1.1 X.1.2.1 dX8_init_164 rfl (lv_at hl 1 rfl) ?_
      refine sg_get X S (k := 0) (by omega) (show ly_cell G (mm_mx (U q) J) (ly_loc 8 0) = ly_K G 8 0 (U q 8 0) from ly_at o8) (show vwCl[8]? = some (RX8, TX8, 9) from rfl) in_X8 8 (by decide) lk_X8_50 rfl dX8_init_165 ?_
      refine lv_iload_n X.1.1 X.1.2.1 dX8_init_168 rfl (lv_at hl 0 rfl) ?_
      have S := S.to (M' := va_up (ly_cell G (mm_mx (U q) J)) (114 + 2 * q) (.inr (5, [.null, .int 0, .int 0]))) (fun j hj => by rw [up_ne (by omega)])
      refine sg_new X S (up_at rfl) (show vwCl[5]? = some (RX5, TX5, 3) from rfl) in_X5 tyX5 tyX5_ok kl_X8_48 nu_X5.1 nu_X5.2 df_X5 (by show 113 + 2 * q + 1 ≤ 121; omega) (by show 1233 + 43 * q + 3 ≤ 1405; omega) dX8_init_169 (fun H S => ?_)
      refine lv_dup X.1.1 X.1.2.1 dX8_init_172 rfl ?_
      refine sg_callIN (n1 := 114 + 2 * q + 1 + 1) X S (k_X5 (k := 114 + 2 * q) (n := 114 + 2 * q + 1) (by omega) (up_at rfl)) rfl il_X8_82 ii_X5_init.1 ii_X5_init.2 cw_X5_init rfl iy_X5_init ⟨rfl, rfl⟩ ⟨Nat.le_of_ble_eq_true rfl, Nat.le_of_ble_eq_true rfl⟩ rfl (rest := [.ref (cx_b G + (114 + 2 * q)), .int x, .ref (cx_b G + ly_loc 26 0)]) rfl hl.1 (Nat.le_of_ble_eq_true rfl) dX8_init_173 ⟨by show 113 + 2 * q + 1 + 1 ≤ 121; omega, by show 1233 + 43 * q + 3 + 40 ≤ 1405; omega⟩ (fun H locs S => ?_)
      have S := S.to (M' := ly_cell G (mm_mx (mm_row (mm_row (U q) 5 q ci_5) 27 q (fun _ => 0)) J)) (fun j hj2 => sh_w hj (fun i hi => up_ne (by omega)) hj2)
      obtain ⟨V, eV⟩ : ∃ z, z = mm_row (mm_row (U q) 5 q ci_5) 27 q (fun _ => 0) := ⟨_, rfl⟩
      rw [← eV] at S
      have o26 : ly_ok (114 + 2 * q + 1 + 1) 26 0 := ly_ok_26 (by decide) (by omega)
      have o5 : ly_ok (114 + 2 * q + 1 + 1) 5 q := ⟨(ly_ok_5_0 q hj).1, by show 114 + 2 * q < _; omega⟩
      refine sg_astq X S (k := ly_loc 26 0) (kv := 114 + 2 * q) (by show 110 < _; omega) (by omega) (show ly_cell G (mm_mx V J) (ly_loc 26 0) = ly_K G 26 0 (V 26 0) from ly_at o26) (r := (RX5, TX5, 3)) rfl (show ly_cell G (mm_mx V J) (ly_loc 5 q) = ly_K G 5 q (V 5 q) from ly_at o5) (show vwCl[5]? = some (RX5, TX5, 3) from rfl) (by rw [ex]; exact ix_nI hj (by decide)) dX8_init_176 (fun H locs S => ?_)
      rw [ex, nI_clamp (by omega), sh_a] at S
      have S : sg_ok G 1 (114 + 2 * q + 1 + 1) (ly_cell G (mm_mx (U (q + 1)) J)) s H locs (113 + 2 * q + 1 + 1) := by
        rw [hU q]
        rw [← eV]; unfold mm_up; rw [mm_mx_rowI rfl, ly_up o26]; exact S
      obtain ⟨x2, ex2⟩ : ∃ y : Int32, y = x + 1 := ⟨_, rfl⟩
      refine lv_iinc (v := x2) (lv' := [(2, .int x2), (0, .ref (cx_b G + 0)), (1, .ref (cx_b G + ly_loc 7 0))]) X.1.1 X.1.2.1 dX8_init_177 hl (k := 0) rfl (by rw [ex2]; rfl) (by decide) rfl (fun ls hl => ?_)
      refine lv_goto (tgt := 159) X.1.1 X.1.2.1 dX8_init_180 (by decide) ?_
      refine W.widen (k := 113 + 2 * (q + 1)) (n := 1233 + 43 * (q + 1)) (by omega) (by omega) ?_
      exact ih (q + 1) (by omega) hj (by rw [ex2, ex]; exact nI_1 q) ⟨S.1, S.2.1, S.2.2.1, by have := S.2.2.2; omega⟩ hl
set_option maxRecDepth 100000 in
set_option maxHeartbeats 4000000 in
theorem kw_X8_133 {l : Launch} {G : cx_T} {p : Program} {e : Env} {s : State} {m : MethodId} {args : Array Value} {below : List Frame} {meth : Method} {c : Code} {J : mm_T} (X : cx_oi G p s m args meth c cX8_init 3 RX8 none) (hsz : s.heap.size = cx_b G + 1) {T U : Nat → mm_T} {Rm : mm_T} (hr : f_X3_readTape 200 111 (ci_I 53) = some (Rm, 1)) (hg : ix_in (Rm 3 0 3) 160 = true) (hT0 : T 0 = md_I Rm 0) (hT : ∀ t, T (t + 1) = mm_up (T t) 20 0 t 0) (hU0 : U 0 = mm_up (T 6) 8 0 5 1) (hU : ∀ t, U (t + 1) = mm_up (mm_row (mm_row (U t) 5 t ci_5) 27 t (fun _ => 0)) 26 0 t 0) : ∀ (cnt q : Nat) {x : Int32} {H : Heap} {locs : List Loc} {ls : Array Slot}, 6 ≤ q + cnt → q ≤ 6 → x = nI q → sg_ok G 1 114 (ly_cell G (mm_mx (T q) J)) s H locs 113 → lv_has ls 3 [(2, .int x), (0, .ref (cx_b G + 0)), (1, .ref (cx_b G + ly_loc 7 0))] → W p l e ({ frames := 300, cells := 121, slots := 1405, locals := 20000 }) s m args below meth c H locs (113) (1233) (MQ below (cg_qv G 122 (ly_cell G (mm_mx (U 4) J))) args s 121 1405 (cx_A G)) (F0 m 133 ls []) := by
  intro cnt
  induction cnt with
  | zero =>
    intro q x H locs ls h1 h2 ex S hl
    refine lv_iload_n X.1.1 X.1.2.1 dX8_init_133 rfl (lv_at hl 0 rfl) ?_
    refine lv_bipush (v := 6) X.1.1 X.1.2.1 dX8_init_134 (by decide) ?_
    refine lv_icmp_ge (tgt := 152) X.1.1 X.1.2.1 dX8_init_136 (by decide) (fun cq => ?_) (fun cq => ?_)
    · have hj : q = 6 := by
        rcases Nat.lt_or_ge q 6 with q9 | q9
        · exact absurd (show nI 6 ≤ nI q by rw [← ex]; exact cq) (nI_ge q9 (by decide))
        · omega
      subst hj
      have o8 : ly_ok 114 8 0 := ly_ok_8 (by decide) (by omega)
      refine lv_aload_n X.1.1 X.1.2.1 dX8_init_152 rfl (lv_at hl 1 rfl) ?_
      refine lv_iconst (v := 1) X.1.1 X.1.2.1 dX8_init_153 (by decide) ?_
      refine sg_put X S (k := ly_loc 8 0) (by decide) (show ly_cell G (mm_mx (T 6) J) (ly_loc 8 0) = ly_K G 8 0 (T 6 8 0) from ly_at o8) (show vwCl[8]? = some (RX8, TX8, 9) from rfl) in_X8 tyX8_ok nmX8 5 (by decide) lk_X8_78 rfl rfl rfl (Nat.le_of_ble_eq_true rfl) dX8_init_154 (fun H locs S => ?_)
      have S : sg_ok G 1 114 (ly_cell G (mm_mx (U 0) J)) s H locs 113 := by
        rw [hU0]
        unfold mm_up; rw [mm_mx_rowI rfl, ly_up o8]; exact S
      refine lv_iconst (v := 0) X.1.1 X.1.2.1 dX8_init_157 (by decide) ?_
      refine lv_istore_n (lv' := [(2, .int 0), (0, .ref (cx_b G + 0)), (1, .ref (cx_b G + ly_loc 7 0))]) X.1.1 X.1.2.1 dX8_init_158 rfl hl (by decide) rfl (fun ls hl => ?_)
      exact kw_X8_159 X hsz hr hg hT0 hT hU0 hU 4 0 (by omega) (by omega) nI_0.symm S hl
    · exact absurd (show nI 6 ≤ x by rw [ex]; exact nI_le (by omega) (by omega)) cq
  | succ cnt ih =>
    intro q x H locs ls h1 h2 ex S hl
    refine lv_iload_n X.1.1 X.1.2.1 dX8_init_133 rfl (lv_at hl 0 rfl) ?_
    refine lv_bipush (v := 6) X.1.1 X.1.2.1 dX8_init_134 (by decide) ?_
    refine lv_icmp_ge (tgt := 152) X.1.1 X.1.2.1 dX8_init_136 (by decide) (fun cq => ?_) (fun cq => ?_)
    · have hj : q = 6 := by
        rcases Nat.lt_or_ge q 6 with q9 | q9
        · exact absurd (show nI 6 ≤ nI q by rw [← ex]; exact cq) (nI_ge q9 (by decide))
        · omega
      subst hj
      have o8 : ly_ok 114 8 0 := ly_ok_8 (by decide) (by omega)
      refine lv_aload_n X.1.1 X.1.2.1 dX8_init_152 rfl (lv_at hl 1 rfl) ?_
      refine lv_iconst (v := 1) X.1.1 X.1.2.1 dX8_init_153 (by decide) ?_
      refine sg_put X S (k := ly_loc 8 0) (by decide) (show ly_cell G (mm_mx (T 6) J) (ly_loc 8 0) = ly_K G 8 0 (T 6 8 0) from ly_at o8) (show vwCl[8]? = some (RX8, TX8, 9) from rfl) in_X8 tyX8_ok nmX8 5 (by decide) lk_X8_78 rfl rfl rfl (Nat.le_of_ble_eq_true rfl) dX8_init_154 (fun H locs S => ?_)
      have S : sg_ok G 1 114 (ly_cell G (mm_mx (U 0) J)) s H locs 113 := by
        rw [hU0]
        unfold mm_up; rw [mm_mx_rowI rfl, ly_up o8]; exact S
      refine lv_iconst (v := 0) X.1.1 X.1.2.1 dX8_init_157 (by decide) ?_
      refine lv_istore_n (lv' := [(2, .int 0), (0, .ref (cx_b G + 0)), (1, .ref (cx_b G + ly_loc 7 0))]) X.1.1 X.1.2.1 dX8_init_158 rfl hl (by decide) rfl (fun ls hl => ?_)
      exact kw_X8_159 X hsz hr hg hT0 hT hU0 hU 4 0 (by omega) (by omega) nI_0.symm S hl
    · have hj : q < 6 := by
        rcases Nat.lt_or_ge q 6 with q9 | q9
        · exact q9
        · exact absurd (show nI 6 ≤ x by rw [ex]; exact nI_le q9 (by omega)) cq
      have o8 : ly_ok 114 8 0 := ly_ok_8 (by decide) (by omega)
      have o20 : ly_ok 114 20 0 := ly_ok_20 (by decide) (by omega)
      have o7 : ly_ok 114 7 0 := ⟨by decide +kernel, by decide +kernel⟩
      refine lv_aload_n X.1.1 X.1.2.1 dX8_init_139 rfl (lv_at hl 1 rfl) ?_
      refine sg_get X S (k := 0) (by omega) (show ly_cell G (mm_mx (T q) J) (ly_loc 8 0) = ly_K G 8 0 (T q 8 0) from ly_at o8) (show vwCl[8]? = some (RX8, TX8, 9) from rfl) in_X8 4 (by decide) lk_X8_28 rfl dX8_init_140 ?_
      refine lv_iload_n X.1.1 X.1.2.1 dX8_init_143 rfl (lv_at hl 0 rfl) ?_
      refine lv_aload_n X.1.1 X.1.2.1 dX8_init_144 rfl (lv_at hl 2 rfl) ?_
      refine sg_astq X S (k := ly_loc 20 0) (kv := ly_loc 7 0) (by decide) (by decide) (show ly_cell G (mm_mx (T q) J) (ly_loc 20 0) = ly_K G 20 0 (T q 20 0) from ly_at o20) (r := (RX7, TX7, 4)) rfl (show ly_cell G (mm_mx (T q) J) (ly_loc 7 0) = ly_K G 7 0 (T q 7 0) from ly_at o7) (show vwCl[7]? = some (RX7, TX7, 4) from rfl) (by rw [ex]; exact ix_nI hj (by decide)) dX8_init_145 (fun H locs S => ?_)
      rw [ex, nI_clamp (by omega), tx_a] at S
      have S : sg_ok G 1 114 (ly_cell G (mm_mx (T (q + 1)) J)) s H locs 113 := by
        rw [hT q]
        unfold mm_up; rw [mm_mx_rowI rfl, ly_up o20]; exact S
      obtain ⟨x2, ex2⟩ : ∃ y : Int32, y = x + 1 := ⟨_, rfl⟩
      refine lv_iinc (v := x2) (lv' := [(2, .int x2), (0, .ref (cx_b G + 0)), (1, .ref (cx_b G + ly_loc 7 0))]) X.1.1 X.1.2.1 dX8_init_146 hl (k := 0) rfl (by rw [ex2]; rfl) (by decide) rfl (fun ls hl => ?_)
      refine lv_goto (tgt := 133) X.1.1 X.1.2.1 dX8_init_149 (by decide) ?_
      exact ih (q + 1) (by omega) hj (by rw [ex2, ex]; exact nI_1 q) S hl
set_option maxRecDepth 100000 in
set_option maxHeartbeats 4000000 in
theorem kw_X8_86 {l : Launch} {G : cx_T} {p : Program} {e : Env} {s : State} {m : MethodId} {args : Array Value} {below : List Frame} {meth : Method} {c : Code} {J : mm_T} (X : cx_oi G p s m args meth c cX8_init 3 RX8 none) (hsz : s.heap.size = cx_b G + 1) {T U : Nat → mm_T} {Rm : mm_T} (hr : f_X3_readTape 200 111 (ci_I 53) = some (Rm, 1)) (hg : ix_in (Rm 3 0 3) 160 = true) (hT0 : T 0 = md_I Rm 0) (hT : ∀ t, T (t + 1) = mm_up (T t) 20 0 t 0) (hU0 : U 0 = mm_up (T 6) 8 0 5 1) (hU : ∀ t, U (t + 1) = mm_up (mm_row (mm_row (U t) 5 t ci_5) 27 t (fun _ => 0)) 26 0 t 0) : ∀ (cnt q : Nat) {x : Int32} {H : Heap} {locs : List Loc} {ls : Array Slot}, 53 ≤ q + cnt → q ≤ 53 → x = nI q → sg_ok G 1 111 (ly_cell G (mm_mx (ci_I q) J)) s H locs 110 → lv_has ls 3 [(1, .int x), (0, .ref (cx_b G + 0))] → W p l e ({ frames := 300, cells := 121, slots := 1405, locals := 20000 }) s m args below meth c H locs (110) (1038) (MQ below (cg_qv G 122 (ly_cell G (mm_mx (U 4) J))) args s 121 1405 (cx_A G)) (F0 m 86 ls []) := by
  intro cnt
  induction cnt with
  | zero =>
    intro q x H locs ls h1 h2 ex S hl
    have o8 : ly_ok 111 8 0 := ly_ok_8 (by decide) (by omega)
    refine lv_iload_n X.1.1 X.1.2.1 dX8_init_86 rfl (lv_at hl 0 rfl) ?_
    refine va_ldcS X.1.1 X.1.2.1 X.1.2.2.2.1 (sk_0 X.1.2.2.2.2.2.1) dX8_init_87 ?_
    refine sg_lg S (fun S => ?_)
    refine lg_Vi (I1 := ci_I q) (J1 := J) (r := nI 53) (As := []) (rest := [.int x]) X S (by decide) ⟨Nat.le_of_ble_eq_true rfl, Nat.le_of_ble_eq_true rfl⟩ (c_J0_length_8abf5 (by decide) ci_len) gd_X8_56 ⟨rfl, ny_J0_length_8abf5⟩ ⟨rfl, rfl⟩ ⟨Nat.le_of_ble_eq_true rfl, Nat.le_of_ble_eq_true rfl⟩ (lg_srecv X S (by decide)) rfl rfl hl.1 (Nat.le_of_ble_eq_true rfl) dX8_init_89 (fun H locs S => ?_)
    refine lv_icmp_ge (tgt := 115) X.1.1 X.1.2.1 dX8_init_92 (by decide) (fun cq => ?_) (fun cq => ?_)
    · have hj : q = 53 := by
        rcases Nat.lt_or_ge q 53 with q9 | q9
        · exact absurd (show nI 53 ≤ nI q by rw [← ex]; exact cq) (nI_ge q9 (by decide))
        · omega
      subst hj
      refine lv_aload_n X.1.1 X.1.2.1 dX8_init_115 rfl (lv_at hl 1 rfl) ?_
      have S := lg_sg (cells := 110) S hsz rfl
      refine sg_get X S (k := 0) (by omega) (show ly_cell G (mm_mx (ci_I 53) J) (ly_loc 8 0) = ly_K G 8 0 (ci_I 53 8 0) from ly_at o8) (show vwCl[8]? = some (RX8, TX8, 9) from rfl) in_X8 3 (by decide) lk_X8_22 rfl dX8_init_116 ?_
      refine sg_lg S (fun S => ?_)
      refine lg_Vi (I1 := Rm) (J1 := J) (r := 1) (As := []) (rest := []) X S (by decide) ⟨Nat.le_of_ble_eq_true rfl, Nat.le_of_ble_eq_true rfl⟩ (c_X3_readTape hr) gd_X8_70 ⟨rfl, ny_X3_readTape⟩ ⟨rfl, rfl⟩ ⟨Nat.le_of_ble_eq_true rfl, Nat.le_of_ble_eq_true rfl⟩ (lg_recvL (k := 3) (i := 0) X S (ly_ok_3 (by decide) (by decide)) rfl rfl) rfl rfl hl.1 (Nat.le_of_ble_eq_true rfl) dX8_init_119 (fun H locs S => ?_)
      refine lv_pop X.1.1 X.1.2.1 dX8_init_122 rfl ?_
      refine lv_aload_n X.1.1 X.1.2.1 dX8_init_123 rfl (lv_at hl 1 rfl) ?_
      have S := lg_sg (cells := 110) S hsz rfl
      refine sg_get X S (k := 0) (by omega) (show ly_cell G (mm_mx Rm J) (ly_loc 8 0) = ly_K G 8 0 (Rm 8 0) from ly_at o8) (show vwCl[8]? = some (RX8, TX8, 9) from rfl) in_X8 3 (by decide) lk_X8_22 rfl dX8_init_124 ?_
      refine sg_lg S (fun S => ?_)
      refine lg_Vr (M1 := ly_cell G (mm_mx (md_I Rm 0) J)) (n1 := 114) (b1 := cx_b G + ly_loc 7 0) (As := []) (rest := []) X S (k_made (t := 0) (Or.inl ⟨rfl, rfl⟩) hg) gd_X8_74 ⟨rfl, ny_X3_made⟩ ⟨rfl, rfl⟩ ⟨Nat.le_of_ble_eq_true rfl, Nat.le_of_ble_eq_true rfl⟩ (lg_recvL (k := 3) (i := 0) X S (ly_ok_3 (by decide) (by decide)) rfl rfl) rfl rfl hl.1 (Nat.le_of_ble_eq_true rfl) dX8_init_127 ⟨Nat.le_of_ble_eq_true rfl, Nat.le_of_ble_eq_true rfl⟩ (fun H locs S => ?_)
      rw [← hT0] at S
      have S := lg_sg (cells := 113) S hsz rfl
      refine lv_astore_n (lv' := [(1, .ref (cx_b G + ly_loc 7 0)), (0, .ref (cx_b G + 0))]) X.1.1 X.1.2.1 dX8_init_130 rfl hl (by decide) rfl (fun ls hl => ?_)
      refine lv_iconst (v := 0) X.1.1 X.1.2.1 dX8_init_131 (by decide) ?_
      refine lv_istore_n (lv' := [(2, .int 0), (1, .ref (cx_b G + ly_loc 7 0)), (0, .ref (cx_b G + 0))]) X.1.1 X.1.2.1 dX8_init_132 rfl hl (by decide) rfl (fun ls hl => ?_)
      exact kw_X8_133 X hsz hr hg hT0 hT hU0 hU 6 0 (by omega) (by omega) nI_0.symm S (lv_sub hl [0, 2, 1] rfl)
    · exact absurd (show nI 53 ≤ x by rw [ex]; exact nI_le (by omega) (by omega)) cq
  | succ cnt ih =>
    intro q x H locs ls h1 h2 ex S hl
    have o8 : ly_ok 111 8 0 := ly_ok_8 (by decide) (by omega)
    refine lv_iload_n X.1.1 X.1.2.1 dX8_init_86 rfl (lv_at hl 0 rfl) ?_
    refine va_ldcS X.1.1 X.1.2.1 X.1.2.2.2.1 (sk_0 X.1.2.2.2.2.2.1) dX8_init_87 ?_
    refine sg_lg S (fun S => ?_)
    refine lg_Vi (I1 := ci_I q) (J1 := J) (r := nI 53) (As := []) (rest := [.int x]) X S (by decide) ⟨Nat.le_of_ble_eq_true rfl, Nat.le_of_ble_eq_true rfl⟩ (c_J0_length_8abf5 (by decide) ci_len) gd_X8_56 ⟨rfl, ny_J0_length_8abf5⟩ ⟨rfl, rfl⟩ ⟨Nat.le_of_ble_eq_true rfl, Nat.le_of_ble_eq_true rfl⟩ (lg_srecv X S (by decide)) rfl rfl hl.1 (Nat.le_of_ble_eq_true rfl) dX8_init_89 (fun H locs S => ?_)
    refine lv_icmp_ge (tgt := 115) X.1.1 X.1.2.1 dX8_init_92 (by decide) (fun cq => ?_) (fun cq => ?_)
    · have hj : q = 53 := by
        rcases Nat.lt_or_ge q 53 with q9 | q9
        · exact absurd (show nI 53 ≤ nI q by rw [← ex]; exact cq) (nI_ge q9 (by decide))
        · omega
      subst hj
      refine lv_aload_n X.1.1 X.1.2.1 dX8_init_115 rfl (lv_at hl 1 rfl) ?_
      have S := lg_sg (cells := 110) S hsz rfl
      refine sg_get X S (k := 0) (by omega) (show ly_cell G (mm_mx (ci_I 53) J) (ly_loc 8 0) = ly_K G 8 0 (ci_I 53 8 0) from ly_at o8) (show vwCl[8]? = some (RX8, TX8, 9) from rfl) in_X8 3 (by decide) lk_X8_22 rfl dX8_init_116 ?_
      refine sg_lg S (fun S => ?_)
      refine lg_Vi (I1 := Rm) (J1 := J) (r := 1) (As := []) (rest := []) X S (by decide) ⟨Nat.le_of_ble_eq_true rfl, Nat.le_of_ble_eq_true rfl⟩ (c_X3_readTape hr) gd_X8_70 ⟨rfl, ny_X3_readTape⟩ ⟨rfl, rfl⟩ ⟨Nat.le_of_ble_eq_true rfl, Nat.le_of_ble_eq_true rfl⟩ (lg_recvL (k := 3) (i := 0) X S (ly_ok_3 (by decide) (by decide)) rfl rfl) rfl rfl hl.1 (Nat.le_of_ble_eq_true rfl) dX8_init_119 (fun H locs S => ?_)
      refine lv_pop X.1.1 X.1.2.1 dX8_init_122 rfl ?_
      refine lv_aload_n X.1.1 X.1.2.1 dX8_init_123 rfl (lv_at hl 1 rfl) ?_
      have S := lg_sg (cells := 110) S hsz rfl
      refine sg_get X S (k := 0) (by omega) (show ly_cell G (mm_mx Rm J) (ly_loc 8 0) = ly_K G 8 0 (Rm 8 0) from ly_at o8) (show vwCl[8]? = some (RX8, TX8, 9) from rfl) in_X8 3 (by decide) lk_X8_22 rfl dX8_init_124 ?_
      refine sg_lg S (fun S => ?_)
      refine lg_Vr (M1 := ly_cell G (mm_mx (md_I Rm 0) J)) (n1 := 114) (b1 := cx_b G + ly_loc 7 0) (As := []) (rest := []) X S (k_made (t := 0) (Or.inl ⟨rfl, rfl⟩) hg) gd_X8_74 ⟨rfl, ny_X3_made⟩ ⟨rfl, rfl⟩ ⟨Nat.le_of_ble_eq_true rfl, Nat.le_of_ble_eq_true rfl⟩ (lg_recvL (k := 3) (i := 0) X S (ly_ok_3 (by decide) (by decide)) rfl rfl) rfl rfl hl.1 (Nat.le_of_ble_eq_true rfl) dX8_init_127 ⟨Nat.le_of_ble_eq_true rfl, Nat.le_of_ble_eq_true rfl⟩ (fun H locs S => ?_)
      rw [← hT0] at S
      have S := lg_sg (cells := 113) S hsz rfl
      refine lv_astore_n (lv' := [(1, .ref (cx_b G + ly_loc 7 0)), (0, .ref (cx_b G + 0))]) X.1.1 X.1.2.1 dX8_init_130 rfl hl (by decide) rfl (fun ls hl => ?_)
      refine lv_iconst (v := 0) X.1.1 X.1.2.1 dX8_init_131 (by decide) ?_
      refine lv_istore_n (lv' := [(2, .int 0), (1, .ref (cx_b G + ly_loc 7 0)), (0, .ref (cx_b G + 0))]) X.1.1 X.1.2.1 dX8_init_132 rfl hl (by decide) rfl (fun ls hl => ?_)
      exact kw_X8_133 X hsz hr hg hT0 hT hU0 hU 6 0 (by omega) (by omega) nI_0.symm S (lv_sub hl [0, 2, 1] rfl)
    · have hj : q < 53 := by
        rcases Nat.lt_or_ge q 53 with q9 | q9
        · exact q9
        · exact absurd (show nI 53 ≤ x by rw [ex]; exact nI_le q9 (by omega)) cq
      refine lv_aload_n X.1.1 X.1.2.1 dX8_init_95 rfl (lv_at hl 1 rfl) ?_
      have S := lg_sg (cells := 110) S hsz rfl
      refine sg_get X S (k := 0) (by omega) (show ly_cell G (mm_mx (ci_I q) J) (ly_loc 8 0) = ly_K G 8 0 (ci_I q 8 0) from ly_at o8) (show vwCl[8]? = some (RX8, TX8, 9) from rfl) in_X8 3 (by decide) lk_X8_22 rfl dX8_init_96 ?_
      refine va_ldcS X.1.1 X.1.2.1 X.1.2.2.2.1 (sk_0 X.1.2.2.2.2.2.1) dX8_init_99 ?_
      refine lv_iload_n X.1.1 X.1.2.1 dX8_init_101 rfl (lv_at hl 0 rfl) ?_
      refine sg_lg S (fun S => ?_)
      refine lg_Vi (I1 := ci_I q) (J1 := J) (r := ci_B.getD q 0) (As := [.int x]) (rest := [.ref (cx_b G + ly_loc 3 0)]) X S (by decide) ⟨Nat.le_of_ble_eq_true rfl, Nat.le_of_ble_eq_true rfl⟩ (c_J0_charAt_5068e (by decide) (by rw [ex]; exact ci_chr q hj)) gd_X8_62 ⟨rfl, ny_J0_charAt_5068e⟩ ⟨rfl, rfl⟩ ⟨Nat.le_of_ble_eq_true rfl, Nat.le_of_ble_eq_true rfl⟩ (lg_srecv X S (by decide)) rfl rfl hl.1 (Nat.le_of_ble_eq_true rfl) dX8_init_102 (fun H locs S => ?_)
      refine lg_Vi (I1 := ci_I (q + 1)) (J1 := J) (r := 1) (As := [.int (ci_B.getD q 0)]) (rest := []) X S (by decide) ⟨Nat.le_of_ble_eq_true rfl, Nat.le_of_ble_eq_true rfl⟩ (c_X3_add (N := 0) (ci_add hj)) gd_X8_66 ⟨rfl, ny_X3_add⟩ ⟨rfl, rfl⟩ ⟨Nat.le_of_ble_eq_true rfl, Nat.le_of_ble_eq_true rfl⟩ (lg_recvL (k := 3) (i := 0) X S (ly_ok_3 (by decide) (by decide)) rfl rfl) rfl rfl hl.1 (Nat.le_of_ble_eq_true rfl) dX8_init_105 (fun H locs S => ?_)
      have S := lg_sg (cells := 110) S hsz rfl
      refine lv_pop X.1.1 X.1.2.1 dX8_init_108 rfl ?_
      obtain ⟨x2, ex2⟩ : ∃ y : Int32, y = x + 1 := ⟨_, rfl⟩
      refine lv_iinc (v := x2) (lv' := [(1, .int x2), (0, .ref (cx_b G + 0))]) X.1.1 X.1.2.1 dX8_init_109 hl (k := 0) rfl (by rw [ex2]; rfl) (by decide) rfl (fun ls hl => ?_)
      refine lv_goto (tgt := 86) X.1.1 X.1.2.1 dX8_init_112 (by decide) ?_
      exact ih (q + 1) (by omega) hj (by rw [ex2, ex]; exact nI_1 q) S hl
set_option maxRecDepth 100000 in
set_option maxHeartbeats 8000000 in
theorem k_X8 {l : Launch} {G : cx_T} {M : Nat → va_E} {J : mm_T} (f0 : M 0 = .inr (8, [.null, .null, .int 0, .null, .null, .int 0, .null, .null, .null])) : cg_m l G 1 yX8_init cX8_init 3 none ({ frames := 300, cells := 121, slots := 1405, locals := 20000 }) [.ref (cx_b G + 0)] M (cg_qv G 122 (ly_cell G (mm_mx ci_C J))) 121 1405 := by
  refine cg_en (by decide) (Nat.le_of_ble_eq_true rfl) ?_
  intro p e s m args below meth c ls hin2 X S hl
  have hin2 : meth.name = "<init>" := hin2
  have X : cx_oi G p s m args meth c cX8_init 3 RX8 none := X
  have hl : lv_has ls 3 [(0, .ref (cx_b G + 0))] := hl
  have hsz := S.2.1
  refine lv_aload_n X.1.1 X.1.2.1 dX8_init_0 rfl (lv_at hl 0 rfl) ?_
  refine sg_oi X ol_X8 oi_i oi_c hl.1 dX8_init_1 (Nat.le_of_ble_eq_true rfl) (Nat.le_of_ble_eq_true rfl) ?_
  refine lv_aload_n X.1.1 X.1.2.1 dX8_init_4 rfl (lv_at hl 0 rfl) ?_
  obtain ⟨M1, eM1⟩ : ∃ z, z = va_up M 1 (.inr (1, [.null, .null, .int 0, .int 0, .int 0, .int 0, .int 0, .int 0])) := ⟨_, rfl⟩
  have f1_0 : M1 0 = .inr (8, [.null, .null, .int 0, .null, .null, .int 0, .null, .null, .null]) := by rw [eM1, up_ne (by omega)]; exact f0
  have f1_1 : M1 1 = .inr (1, [.null, .null, .int 0, .int 0, .int 0, .int 0, .int 0, .int 0]) := by rw [eM1]; exact up_at rfl
  have S := S.to (M' := M1) (fun j hj => by rw [eM1, up_ne (by omega)])
  refine sg_new X S f1_1 (show vwCl[1]? = some (RX1, TX1, 8) from rfl) in_X1 tyX1 tyX1_ok kl_X8_7 nu_X1.1 nu_X1.2 df_X1 (Nat.le_of_ble_eq_true rfl) (Nat.le_of_ble_eq_true rfl) dX8_init_5 (fun H S => ?_)
  refine lv_dup X.1.1 X.1.2.1 dX8_init_8 rfl ?_
  refine sg_callI (n1 := 19) (M1 := hs_M G M1 1 2 8 7) X S (k_X1 (k := 1) (n := 2) (by omega) f1_1) rfl il_X8_9 ii_X1_init.1 ii_X1_init.2 cw_X1_init rfl iy_X1_init ⟨rfl, rfl⟩ ⟨Nat.le_of_ble_eq_true rfl, Nat.le_of_ble_eq_true rfl⟩ rfl (rest := [.ref (cx_b G + 1), .ref (cx_b G + 0)]) rfl hl.1 (Nat.le_of_ble_eq_true rfl) dX8_init_9 ⟨Nat.le_of_ble_eq_true rfl, Nat.le_of_ble_eq_true rfl⟩ (fun H locs S => ?_)
  obtain ⟨M2, eM2⟩ : ∃ z, z = hs_M G M1 1 2 8 7 := ⟨_, rfl⟩
  rw [← eM2] at S
  have f2_0 : M2 0 = .inr (8, [.null, .null, .int 0, .null, .null, .int 0, .null, .null, .null]) := by rw [eM2, hs_old (by omega) (by omega)]; exact f1_0
  have f2_1 : M2 1 = .inr (1, [.ref (cx_b G + 2), .ref (cx_b G + 3), .int 0, .int 0, .int 0, .int 60, .int 0, .int 0]) := by rw [eM2]; exact hs_k
  refine sg_putF X hin2 S (by omega) f2_0 (show vwCl[8]? = some (RX8, TX8, 9) from rfl) in_X8 tyX8_ok nmX8 0 (by decide) rfl lk_X8_10 rfl rfl rfl (Nat.le_of_ble_eq_true rfl) dX8_init_12 (fun H locs S => ?_)
  obtain ⟨M3, eM3⟩ : ∃ z, z = va_up M2 0 (.inr (8, [.ref (cx_b G + 1), .null, .int 0, .null, .null, .int 0, .null, .null, .null])) := ⟨_, rfl⟩
  have f3_1 : M3 1 = .inr (1, [.ref (cx_b G + 2), .ref (cx_b G + 3), .int 0, .int 0, .int 0, .int 60, .int 0, .int 0]) := by rw [eM3, up_ne (by omega)]; exact f2_1
  have f3_0 : M3 0 = .inr (8, [.ref (cx_b G + 1), .null, .int 0, .null, .null, .int 0, .null, .null, .null]) := by rw [eM3]; exact up_at rfl
  have S : sg_ok G 1 (19) M3 s H locs (0 + 1 + 17) := by rw [eM3]; exact S
  refine lv_aload_n X.1.1 X.1.2.1 dX8_init_15 rfl (lv_at hl 0 rfl) ?_
  obtain ⟨M4, eM4⟩ : ∃ z, z = va_up M3 19 (.inr (1, [.null, .null, .int 0, .int 0, .int 0, .int 0, .int 0, .int 0])) := ⟨_, rfl⟩
  have f4_1 : M4 1 = .inr (1, [.ref (cx_b G + 2), .ref (cx_b G + 3), .int 0, .int 0, .int 0, .int 60, .int 0, .int 0]) := by rw [eM4, up_ne (by omega)]; exact f3_1
  have f4_0 : M4 0 = .inr (8, [.ref (cx_b G + 1), .null, .int 0, .null, .null, .int 0, .null, .null, .null]) := by rw [eM4, up_ne (by omega)]; exact f3_0
  have f4_19 : M4 19 = .inr (1, [.null, .null, .int 0, .int 0, .int 0, .int 0, .int 0, .int 0]) := by rw [eM4]; exact up_at rfl
  have S := S.to (M' := M4) (fun j hj => by rw [eM4, up_ne (by omega)])
  refine sg_new X S f4_19 (show vwCl[1]? = some (RX1, TX1, 8) from rfl) in_X1 tyX1 tyX1_ok kl_X8_7 nu_X1.1 nu_X1.2 df_X1 (Nat.le_of_ble_eq_true rfl) (Nat.le_of_ble_eq_true rfl) dX8_init_16 (fun H S => ?_)
  refine lv_dup X.1.1 X.1.2.1 dX8_init_19 rfl ?_
  refine sg_callI (n1 := 37) (M1 := hs_M G M4 19 20 8 7) X S (k_X1 (k := 19) (n := 20) (by omega) f4_19) rfl il_X8_9 ii_X1_init.1 ii_X1_init.2 cw_X1_init rfl iy_X1_init ⟨rfl, rfl⟩ ⟨Nat.le_of_ble_eq_true rfl, Nat.le_of_ble_eq_true rfl⟩ rfl (rest := [.ref (cx_b G + 19), .ref (cx_b G + 0)]) rfl hl.1 (Nat.le_of_ble_eq_true rfl) dX8_init_20 ⟨Nat.le_of_ble_eq_true rfl, Nat.le_of_ble_eq_true rfl⟩ (fun H locs S => ?_)
  obtain ⟨M5, eM5⟩ : ∃ z, z = hs_M G M4 19 20 8 7 := ⟨_, rfl⟩
  rw [← eM5] at S
  have f5_1 : M5 1 = .inr (1, [.ref (cx_b G + 2), .ref (cx_b G + 3), .int 0, .int 0, .int 0, .int 60, .int 0, .int 0]) := by rw [eM5, hs_old (by omega) (by omega)]; exact f4_1
  have f5_0 : M5 0 = .inr (8, [.ref (cx_b G + 1), .null, .int 0, .null, .null, .int 0, .null, .null, .null]) := by rw [eM5, hs_old (by omega) (by omega)]; exact f4_0
  have f5_19 : M5 19 = .inr (1, [.ref (cx_b G + 20), .ref (cx_b G + 21), .int 0, .int 0, .int 0, .int 60, .int 0, .int 0]) := by rw [eM5]; exact hs_k
  refine sg_putF X hin2 S (by omega) f5_0 (show vwCl[8]? = some (RX8, TX8, 9) from rfl) in_X8 tyX8_ok nmX8 1 (by decide) rfl lk_X8_16 rfl rfl rfl (Nat.le_of_ble_eq_true rfl) dX8_init_23 (fun H locs S => ?_)
  obtain ⟨M6, eM6⟩ : ∃ z, z = va_up M5 0 (.inr (8, [.ref (cx_b G + 1), .ref (cx_b G + 19), .int 0, .null, .null, .int 0, .null, .null, .null])) := ⟨_, rfl⟩
  have f6_1 : M6 1 = .inr (1, [.ref (cx_b G + 2), .ref (cx_b G + 3), .int 0, .int 0, .int 0, .int 60, .int 0, .int 0]) := by rw [eM6, up_ne (by omega)]; exact f5_1
  have f6_19 : M6 19 = .inr (1, [.ref (cx_b G + 20), .ref (cx_b G + 21), .int 0, .int 0, .int 0, .int 60, .int 0, .int 0]) := by rw [eM6, up_ne (by omega)]; exact f5_19
  have f6_0 : M6 0 = .inr (8, [.ref (cx_b G + 1), .ref (cx_b G + 19), .int 0, .null, .null, .int 0, .null, .null, .null]) := by rw [eM6]; exact up_at rfl
  have S : sg_ok G 1 (37) M6 s H locs (0 + 1 + 17 + 1 + 17) := by rw [eM6]; exact S
  refine lv_aload_n X.1.1 X.1.2.1 dX8_init_26 rfl (lv_at hl 0 rfl) ?_
  obtain ⟨M7, eM7⟩ : ∃ z, z = va_up M6 37 (.inr (3, [.null, .int 0, .null, .int 0, .int 0, .int 0, .int 0, .int 0, .int 0, .int 0, .int 0])) := ⟨_, rfl⟩
  have f7_1 : M7 1 = .inr (1, [.ref (cx_b G + 2), .ref (cx_b G + 3), .int 0, .int 0, .int 0, .int 60, .int 0, .int 0]) := by rw [eM7, up_ne (by omega)]; exact f6_1
  have f7_19 : M7 19 = .inr (1, [.ref (cx_b G + 20), .ref (cx_b G + 21), .int 0, .int 0, .int 0, .int 60, .int 0, .int 0]) := by rw [eM7, up_ne (by omega)]; exact f6_19
  have f7_0 : M7 0 = .inr (8, [.ref (cx_b G + 1), .ref (cx_b G + 19), .int 0, .null, .null, .int 0, .null, .null, .null]) := by rw [eM7, up_ne (by omega)]; exact f6_0
  have f7_37 : M7 37 = .inr (3, [.null, .int 0, .null, .int 0, .int 0, .int 0, .int 0, .int 0, .int 0, .int 0, .int 0]) := by rw [eM7]; exact up_at rfl
  have S := S.to (M' := M7) (fun j hj => by rw [eM7, up_ne (by omega)])
  refine sg_new X S f7_37 (show vwCl[3]? = some (RX3, TX3, 11) from rfl) in_X3 tyX3 tyX3_ok kl_X8_19 nu_X3.1 nu_X3.2 df_X3 (Nat.le_of_ble_eq_true rfl) (Nat.le_of_ble_eq_true rfl) dX8_init_27 (fun H S => ?_)
  refine lv_dup X.1.1 X.1.2.1 dX8_init_30 rfl ?_
  refine sg_callIN (n1 := 40) (M1 := mk_X3 G M7 37 38) X S (k_X3 (k := 37) (n := 38) (by omega) f7_37) rfl il_X8_21 ii_X3_init.1 ii_X3_init.2 cw_X3_init rfl iy_X3_init ⟨rfl, rfl⟩ ⟨Nat.le_of_ble_eq_true rfl, Nat.le_of_ble_eq_true rfl⟩ rfl (rest := [.ref (cx_b G + 37), .ref (cx_b G + 0)]) rfl hl.1 (Nat.le_of_ble_eq_true rfl) dX8_init_31 ⟨Nat.le_of_ble_eq_true rfl, Nat.le_of_ble_eq_true rfl⟩ (fun H locs S => ?_)
  obtain ⟨M8, eM8⟩ : ∃ z, z = mk_X3 G M7 37 38 := ⟨_, rfl⟩
  rw [← eM8] at S
  have f8_1 : M8 1 = .inr (1, [.ref (cx_b G + 2), .ref (cx_b G + 3), .int 0, .int 0, .int 0, .int 60, .int 0, .int 0]) := by rw [eM8, mk_X3_old (by omega) (by omega)]; exact f7_1
  have f8_19 : M8 19 = .inr (1, [.ref (cx_b G + 20), .ref (cx_b G + 21), .int 0, .int 0, .int 0, .int 60, .int 0, .int 0]) := by rw [eM8, mk_X3_old (by omega) (by omega)]; exact f7_19
  have f8_0 : M8 0 = .inr (8, [.ref (cx_b G + 1), .ref (cx_b G + 19), .int 0, .null, .null, .int 0, .null, .null, .null]) := by rw [eM8, mk_X3_old (by omega) (by omega)]; exact f7_0
  have f8_37 : M8 37 = .inr (3, [.ref (cx_b G + 38), .int 0, .ref (cx_b G + 39), .int 0, .int 0, .int 0, .int 0, .int 0, .int 0, .int 0, .int 0]) := by rw [eM8]; exact mk_X3_at (by omega)
  refine sg_putF X hin2 S (by omega) f8_0 (show vwCl[8]? = some (RX8, TX8, 9) from rfl) in_X8 tyX8_ok nmX8 3 (by decide) rfl lk_X8_22 rfl rfl rfl (Nat.le_of_ble_eq_true rfl) dX8_init_34 (fun H locs S => ?_)
  obtain ⟨M9, eM9⟩ : ∃ z, z = va_up M8 0 (.inr (8, [.ref (cx_b G + 1), .ref (cx_b G + 19), .int 0, .ref (cx_b G + 37), .null, .int 0, .null, .null, .null])) := ⟨_, rfl⟩
  have f9_1 : M9 1 = .inr (1, [.ref (cx_b G + 2), .ref (cx_b G + 3), .int 0, .int 0, .int 0, .int 60, .int 0, .int 0]) := by rw [eM9, up_ne (by omega)]; exact f8_1
  have f9_19 : M9 19 = .inr (1, [.ref (cx_b G + 20), .ref (cx_b G + 21), .int 0, .int 0, .int 0, .int 60, .int 0, .int 0]) := by rw [eM9, up_ne (by omega)]; exact f8_19
  have f9_37 : M9 37 = .inr (3, [.ref (cx_b G + 38), .int 0, .ref (cx_b G + 39), .int 0, .int 0, .int 0, .int 0, .int 0, .int 0, .int 0, .int 0]) := by rw [eM9, up_ne (by omega)]; exact f8_37
  have f9_0 : M9 0 = .inr (8, [.ref (cx_b G + 1), .ref (cx_b G + 19), .int 0, .ref (cx_b G + 37), .null, .int 0, .null, .null, .null]) := by rw [eM9]; exact up_at rfl
  have S : sg_ok G 1 (40) M9 s H locs (0 + 1 + 17 + 1 + 17 + 1 + 2) := by rw [eM9]; exact S
  refine lv_aload_n X.1.1 X.1.2.1 dX8_init_37 rfl (lv_at hl 0 rfl) ?_
  refine lv_bipush (v := 6) X.1.1 X.1.2.1 dX8_init_38 (by decide) ?_
  obtain ⟨M10, eM10⟩ : ∃ z, z = va_up M9 40 (.inl (cx_c G 4, 6, .inr (.inr (.inr (.inr (fun _ => none)))))) := ⟨_, rfl⟩
  have f10_1 : M10 1 = .inr (1, [.ref (cx_b G + 2), .ref (cx_b G + 3), .int 0, .int 0, .int 0, .int 60, .int 0, .int 0]) := by rw [eM10, up_ne (by omega)]; exact f9_1
  have f10_19 : M10 19 = .inr (1, [.ref (cx_b G + 20), .ref (cx_b G + 21), .int 0, .int 0, .int 0, .int 60, .int 0, .int 0]) := by rw [eM10, up_ne (by omega)]; exact f9_19
  have f10_37 : M10 37 = .inr (3, [.ref (cx_b G + 38), .int 0, .ref (cx_b G + 39), .int 0, .int 0, .int 0, .int 0, .int 0, .int 0, .int 0, .int 0]) := by rw [eM10, up_ne (by omega)]; exact f9_37
  have f10_0 : M10 0 = .inr (8, [.ref (cx_b G + 1), .ref (cx_b G + 19), .int 0, .ref (cx_b G + 37), .null, .int 0, .null, .null, .null]) := by rw [eM10, up_ne (by omega)]; exact f9_0
  have f10_40 : M10 40 = .inl (cx_c G 4, 6, .inr (.inr (.inr (.inr (fun _ => none))))) := by rw [eM10]; exact up_at rfl
  have S := S.to (M' := M10) (fun j hj => by rw [eM10, up_ne (by omega)])
  refine sg_newq (N := 6) X S 4 rfl (by decide) f10_40 (by decide) rfl (Nat.le_of_ble_eq_true rfl) (Nat.le_of_ble_eq_true rfl) (Nat.le_of_ble_eq_true rfl) kl_X8_26 dX8_init_40 (fun H S => ?_)
  refine sg_putF X hin2 S (by omega) f10_0 (show vwCl[8]? = some (RX8, TX8, 9) from rfl) in_X8 tyX8_ok nmX8 4 (by decide) rfl lk_X8_28 rfl rfl rfl (Nat.le_of_ble_eq_true rfl) dX8_init_43 (fun H locs S => ?_)
  obtain ⟨M11, eM11⟩ : ∃ z, z = va_up M10 0 (.inr (8, [.ref (cx_b G + 1), .ref (cx_b G + 19), .int 0, .ref (cx_b G + 37), .ref (cx_b G + 40), .int 0, .null, .null, .null])) := ⟨_, rfl⟩
  have f11_1 : M11 1 = .inr (1, [.ref (cx_b G + 2), .ref (cx_b G + 3), .int 0, .int 0, .int 0, .int 60, .int 0, .int 0]) := by rw [eM11, up_ne (by omega)]; exact f10_1
  have f11_19 : M11 19 = .inr (1, [.ref (cx_b G + 20), .ref (cx_b G + 21), .int 0, .int 0, .int 0, .int 60, .int 0, .int 0]) := by rw [eM11, up_ne (by omega)]; exact f10_19
  have f11_37 : M11 37 = .inr (3, [.ref (cx_b G + 38), .int 0, .ref (cx_b G + 39), .int 0, .int 0, .int 0, .int 0, .int 0, .int 0, .int 0, .int 0]) := by rw [eM11, up_ne (by omega)]; exact f10_37
  have f11_40 : M11 40 = .inl (cx_c G 4, 6, .inr (.inr (.inr (.inr (fun _ => none))))) := by rw [eM11, up_ne (by omega)]; exact f10_40
  have f11_0 : M11 0 = .inr (8, [.ref (cx_b G + 1), .ref (cx_b G + 19), .int 0, .ref (cx_b G + 37), .ref (cx_b G + 40), .int 0, .null, .null, .null]) := by rw [eM11]; exact up_at rfl
  have S : sg_ok G 1 (41) M11 s H locs (0 + 1 + 17 + 1 + 17 + 1 + 2 + 1) := by rw [eM11]; exact S
  refine lv_aload_n X.1.1 X.1.2.1 dX8_init_46 rfl (lv_at hl 0 rfl) ?_
  obtain ⟨M12, eM12⟩ : ∃ z, z = va_up M11 41 (.inr (0, [.null, .null, .null, .null, .null, .null, .null, .int 0, .null, .int 0, .int 0, .int 0, .int 0, .int 0, .int 0, .int 0])) := ⟨_, rfl⟩
  have f12_1 : M12 1 = .inr (1, [.ref (cx_b G + 2), .ref (cx_b G + 3), .int 0, .int 0, .int 0, .int 60, .int 0, .int 0]) := by rw [eM12, up_ne (by omega)]; exact f11_1
  have f12_19 : M12 19 = .inr (1, [.ref (cx_b G + 20), .ref (cx_b G + 21), .int 0, .int 0, .int 0, .int 60, .int 0, .int 0]) := by rw [eM12, up_ne (by omega)]; exact f11_19
  have f12_37 : M12 37 = .inr (3, [.ref (cx_b G + 38), .int 0, .ref (cx_b G + 39), .int 0, .int 0, .int 0, .int 0, .int 0, .int 0, .int 0, .int 0]) := by rw [eM12, up_ne (by omega)]; exact f11_37
  have f12_40 : M12 40 = .inl (cx_c G 4, 6, .inr (.inr (.inr (.inr (fun _ => none))))) := by rw [eM12, up_ne (by omega)]; exact f11_40
  have f12_0 : M12 0 = .inr (8, [.ref (cx_b G + 1), .ref (cx_b G + 19), .int 0, .ref (cx_b G + 37), .ref (cx_b G + 40), .int 0, .null, .null, .null]) := by rw [eM12, up_ne (by omega)]; exact f11_0
  have f12_41 : M12 41 = .inr (0, [.null, .null, .null, .null, .null, .null, .null, .int 0, .null, .int 0, .int 0, .int 0, .int 0, .int 0, .int 0, .int 0]) := by rw [eM12]; exact up_at rfl
  have S := S.to (M' := M12) (fun j hj => by rw [eM12, up_ne (by omega)])
  refine sg_new X S f12_41 (show vwCl[0]? = some (RX0, TX0, 16) from rfl) in_X0 tyX0 tyX0_ok kl_X8_32 nu_X0.1 nu_X0.2 df_X0 (Nat.le_of_ble_eq_true rfl) (Nat.le_of_ble_eq_true rfl) dX8_init_47 (fun H S => ?_)
  refine lv_dup X.1.1 X.1.2.1 dX8_init_50 rfl ?_
  refine lv_aload_n X.1.1 X.1.2.1 dX8_init_51 rfl (lv_at hl 0 rfl) ?_
  refine sg_get X S (by omega) f12_0 (show vwCl[8]? = some (RX8, TX8, 9) from rfl) in_X8 0 (by decide) lk_X8_10 rfl dX8_init_52 ?_
  refine sg_callI (n1 := 48) (M1 := mk_X0 G M12 41 42 1) X S (k_X0 (k := 41) (n := 42) (h := 1) (by omega) f12_41) rfl il_X8_34 ii_X0_init.1 ii_X0_init.2 cw_X0_init rfl iy_X0_init ⟨rfl, rfl⟩ ⟨Nat.le_of_ble_eq_true rfl, Nat.le_of_ble_eq_true rfl⟩ rfl (rest := [.ref (cx_b G + 41), .ref (cx_b G + 0)]) rfl hl.1 (Nat.le_of_ble_eq_true rfl) dX8_init_55 ⟨Nat.le_of_ble_eq_true rfl, Nat.le_of_ble_eq_true rfl⟩ (fun H locs S => ?_)
  obtain ⟨M13, eM13⟩ : ∃ z, z = mk_X0 G M12 41 42 1 := ⟨_, rfl⟩
  rw [← eM13] at S
  have f13_1 : M13 1 = .inr (1, [.ref (cx_b G + 2), .ref (cx_b G + 3), .int 0, .int 0, .int 0, .int 60, .int 0, .int 0]) := by rw [eM13, mk_X0_old (by omega) (by omega)]; exact f12_1
  have f13_19 : M13 19 = .inr (1, [.ref (cx_b G + 20), .ref (cx_b G + 21), .int 0, .int 0, .int 0, .int 60, .int 0, .int 0]) := by rw [eM13, mk_X0_old (by omega) (by omega)]; exact f12_19
  have f13_37 : M13 37 = .inr (3, [.ref (cx_b G + 38), .int 0, .ref (cx_b G + 39), .int 0, .int 0, .int 0, .int 0, .int 0, .int 0, .int 0, .int 0]) := by rw [eM13, mk_X0_old (by omega) (by omega)]; exact f12_37
  have f13_40 : M13 40 = .inl (cx_c G 4, 6, .inr (.inr (.inr (.inr (fun _ => none))))) := by rw [eM13, mk_X0_old (by omega) (by omega)]; exact f12_40
  have f13_0 : M13 0 = .inr (8, [.ref (cx_b G + 1), .ref (cx_b G + 19), .int 0, .ref (cx_b G + 37), .ref (cx_b G + 40), .int 0, .null, .null, .null]) := by rw [eM13, mk_X0_old (by omega) (by omega)]; exact f12_0
  have f13_41 : M13 41 = .inr (0, [.ref (cx_b G + 1), .null, .ref (cx_b G + 42), .ref (cx_b G + 43), .ref (cx_b G + 44), .ref (cx_b G + 45), .ref (cx_b G + 46), .int 0, .ref (cx_b G + 47), .int 0, .int 0, .int 0, .int 0, .int 0, .int 0, .int 0]) := by rw [eM13]; exact mk_X0_at (by omega)
  refine sg_putF X hin2 S (by omega) f13_0 (show vwCl[8]? = some (RX8, TX8, 9) from rfl) in_X8 tyX8_ok nmX8 6 (by decide) rfl lk_X8_37 rfl rfl rfl (Nat.le_of_ble_eq_true rfl) dX8_init_58 (fun H locs S => ?_)
  obtain ⟨M14, eM14⟩ : ∃ z, z = va_up M13 0 (.inr (8, [.ref (cx_b G + 1), .ref (cx_b G + 19), .int 0, .ref (cx_b G + 37), .ref (cx_b G + 40), .int 0, .ref (cx_b G + 41), .null, .null])) := ⟨_, rfl⟩
  have f14_1 : M14 1 = .inr (1, [.ref (cx_b G + 2), .ref (cx_b G + 3), .int 0, .int 0, .int 0, .int 60, .int 0, .int 0]) := by rw [eM14, up_ne (by omega)]; exact f13_1
  have f14_19 : M14 19 = .inr (1, [.ref (cx_b G + 20), .ref (cx_b G + 21), .int 0, .int 0, .int 0, .int 60, .int 0, .int 0]) := by rw [eM14, up_ne (by omega)]; exact f13_19
  have f14_37 : M14 37 = .inr (3, [.ref (cx_b G + 38), .int 0, .ref (cx_b G + 39), .int 0, .int 0, .int 0, .int 0, .int 0, .int 0, .int 0, .int 0]) := by rw [eM14, up_ne (by omega)]; exact f13_37
  have f14_40 : M14 40 = .inl (cx_c G 4, 6, .inr (.inr (.inr (.inr (fun _ => none))))) := by rw [eM14, up_ne (by omega)]; exact f13_40
  have f14_41 : M14 41 = .inr (0, [.ref (cx_b G + 1), .null, .ref (cx_b G + 42), .ref (cx_b G + 43), .ref (cx_b G + 44), .ref (cx_b G + 45), .ref (cx_b G + 46), .int 0, .ref (cx_b G + 47), .int 0, .int 0, .int 0, .int 0, .int 0, .int 0, .int 0]) := by rw [eM14, up_ne (by omega)]; exact f13_41
  have f14_0 : M14 0 = .inr (8, [.ref (cx_b G + 1), .ref (cx_b G + 19), .int 0, .ref (cx_b G + 37), .ref (cx_b G + 40), .int 0, .ref (cx_b G + 41), .null, .null]) := by rw [eM14]; exact up_at rfl
  have S : sg_ok G 1 (48) M14 s H locs (0 + 1 + 17 + 1 + 17 + 1 + 2 + 1 + 1 + 6) := by rw [eM14]; exact S
  refine lv_aload_n X.1.1 X.1.2.1 dX8_init_61 rfl (lv_at hl 0 rfl) ?_
  obtain ⟨M15, eM15⟩ : ∃ z, z = va_up M14 48 (.inr (4, [.null, .null, .null, .null, .null, .null, .int 0])) := ⟨_, rfl⟩
  have f15_1 : M15 1 = .inr (1, [.ref (cx_b G + 2), .ref (cx_b G + 3), .int 0, .int 0, .int 0, .int 60, .int 0, .int 0]) := by rw [eM15, up_ne (by omega)]; exact f14_1
  have f15_19 : M15 19 = .inr (1, [.ref (cx_b G + 20), .ref (cx_b G + 21), .int 0, .int 0, .int 0, .int 60, .int 0, .int 0]) := by rw [eM15, up_ne (by omega)]; exact f14_19
  have f15_37 : M15 37 = .inr (3, [.ref (cx_b G + 38), .int 0, .ref (cx_b G + 39), .int 0, .int 0, .int 0, .int 0, .int 0, .int 0, .int 0, .int 0]) := by rw [eM15, up_ne (by omega)]; exact f14_37
  have f15_40 : M15 40 = .inl (cx_c G 4, 6, .inr (.inr (.inr (.inr (fun _ => none))))) := by rw [eM15, up_ne (by omega)]; exact f14_40
  have f15_41 : M15 41 = .inr (0, [.ref (cx_b G + 1), .null, .ref (cx_b G + 42), .ref (cx_b G + 43), .ref (cx_b G + 44), .ref (cx_b G + 45), .ref (cx_b G + 46), .int 0, .ref (cx_b G + 47), .int 0, .int 0, .int 0, .int 0, .int 0, .int 0, .int 0]) := by rw [eM15, up_ne (by omega)]; exact f14_41
  have f15_0 : M15 0 = .inr (8, [.ref (cx_b G + 1), .ref (cx_b G + 19), .int 0, .ref (cx_b G + 37), .ref (cx_b G + 40), .int 0, .ref (cx_b G + 41), .null, .null]) := by rw [eM15, up_ne (by omega)]; exact f14_0
  have f15_48 : M15 48 = .inr (4, [.null, .null, .null, .null, .null, .null, .int 0]) := by rw [eM15]; exact up_at rfl
  have S := S.to (M' := M15) (fun j hj => by rw [eM15, up_ne (by omega)])
  refine sg_new X S f15_48 (show vwCl[4]? = some (RX4, TX4, 7) from rfl) in_X4 tyX4 tyX4_ok kl_X8_41 nu_X4.1 nu_X4.2 df_X4 (Nat.le_of_ble_eq_true rfl) (Nat.le_of_ble_eq_true rfl) dX8_init_62 (fun H S => ?_)
  refine lv_dup X.1.1 X.1.2.1 dX8_init_65 rfl ?_
  refine lv_aload_n X.1.1 X.1.2.1 dX8_init_66 rfl (lv_at hl 0 rfl) ?_
  refine sg_get X S (by omega) f15_0 (show vwCl[8]? = some (RX8, TX8, 9) from rfl) in_X8 0 (by decide) lk_X8_10 rfl dX8_init_67 ?_
  refine sg_callI (n1 := 110) (M1 := ss_M G M15 48 49 1 8) X S (k_X4 (k := 48) (n := 49) (h := 1) (by omega) f15_48) rfl il_X8_43 ii_X4_init.1 ii_X4_init.2 cw_X4_init rfl iy_X4_init ⟨rfl, rfl⟩ ⟨Nat.le_of_ble_eq_true rfl, Nat.le_of_ble_eq_true rfl⟩ rfl (rest := [.ref (cx_b G + 48), .ref (cx_b G + 0)]) rfl hl.1 (Nat.le_of_ble_eq_true rfl) dX8_init_70 ⟨Nat.le_of_ble_eq_true rfl, Nat.le_of_ble_eq_true rfl⟩ (fun H locs S => ?_)
  obtain ⟨M16, eM16⟩ : ∃ z, z = ss_M G M15 48 49 1 8 := ⟨_, rfl⟩
  rw [← eM16] at S
  have f16_1 : M16 1 = .inr (1, [.ref (cx_b G + 2), .ref (cx_b G + 3), .int 0, .int 0, .int 0, .int 60, .int 0, .int 0]) := by rw [eM16, ss_old (by omega) (by omega)]; exact f15_1
  have f16_19 : M16 19 = .inr (1, [.ref (cx_b G + 20), .ref (cx_b G + 21), .int 0, .int 0, .int 0, .int 60, .int 0, .int 0]) := by rw [eM16, ss_old (by omega) (by omega)]; exact f15_19
  have f16_37 : M16 37 = .inr (3, [.ref (cx_b G + 38), .int 0, .ref (cx_b G + 39), .int 0, .int 0, .int 0, .int 0, .int 0, .int 0, .int 0, .int 0]) := by rw [eM16, ss_old (by omega) (by omega)]; exact f15_37
  have f16_40 : M16 40 = .inl (cx_c G 4, 6, .inr (.inr (.inr (.inr (fun _ => none))))) := by rw [eM16, ss_old (by omega) (by omega)]; exact f15_40
  have f16_41 : M16 41 = .inr (0, [.ref (cx_b G + 1), .null, .ref (cx_b G + 42), .ref (cx_b G + 43), .ref (cx_b G + 44), .ref (cx_b G + 45), .ref (cx_b G + 46), .int 0, .ref (cx_b G + 47), .int 0, .int 0, .int 0, .int 0, .int 0, .int 0, .int 0]) := by rw [eM16, ss_old (by omega) (by omega)]; exact f15_41
  have f16_0 : M16 0 = .inr (8, [.ref (cx_b G + 1), .ref (cx_b G + 19), .int 0, .ref (cx_b G + 37), .ref (cx_b G + 40), .int 0, .ref (cx_b G + 41), .null, .null]) := by rw [eM16, ss_old (by omega) (by omega)]; exact f15_0
  have f16_48 : M16 48 = .inr (4, [.ref (cx_b G + 1), .ref (cx_b G + 49), .ref (cx_b G + 50), .ref (cx_b G + 51), .ref (cx_b G + 52), .ref (cx_b G + 53), .int (-1)]) := by rw [eM16]; exact ss_k
  refine sg_putF X hin2 S (by omega) f16_0 (show vwCl[8]? = some (RX8, TX8, 9) from rfl) in_X8 tyX8_ok nmX8 7 (by decide) rfl lk_X8_44 rfl rfl rfl (Nat.le_of_ble_eq_true rfl) dX8_init_73 (fun H locs S => ?_)
  obtain ⟨M17, eM17⟩ : ∃ z, z = va_up M16 0 (.inr (8, [.ref (cx_b G + 1), .ref (cx_b G + 19), .int 0, .ref (cx_b G + 37), .ref (cx_b G + 40), .int 0, .ref (cx_b G + 41), .ref (cx_b G + 48), .null])) := ⟨_, rfl⟩
  have f17_1 : M17 1 = .inr (1, [.ref (cx_b G + 2), .ref (cx_b G + 3), .int 0, .int 0, .int 0, .int 60, .int 0, .int 0]) := by rw [eM17, up_ne (by omega)]; exact f16_1
  have f17_19 : M17 19 = .inr (1, [.ref (cx_b G + 20), .ref (cx_b G + 21), .int 0, .int 0, .int 0, .int 60, .int 0, .int 0]) := by rw [eM17, up_ne (by omega)]; exact f16_19
  have f17_37 : M17 37 = .inr (3, [.ref (cx_b G + 38), .int 0, .ref (cx_b G + 39), .int 0, .int 0, .int 0, .int 0, .int 0, .int 0, .int 0, .int 0]) := by rw [eM17, up_ne (by omega)]; exact f16_37
  have f17_40 : M17 40 = .inl (cx_c G 4, 6, .inr (.inr (.inr (.inr (fun _ => none))))) := by rw [eM17, up_ne (by omega)]; exact f16_40
  have f17_41 : M17 41 = .inr (0, [.ref (cx_b G + 1), .null, .ref (cx_b G + 42), .ref (cx_b G + 43), .ref (cx_b G + 44), .ref (cx_b G + 45), .ref (cx_b G + 46), .int 0, .ref (cx_b G + 47), .int 0, .int 0, .int 0, .int 0, .int 0, .int 0, .int 0]) := by rw [eM17, up_ne (by omega)]; exact f16_41
  have f17_48 : M17 48 = .inr (4, [.ref (cx_b G + 1), .ref (cx_b G + 49), .ref (cx_b G + 50), .ref (cx_b G + 51), .ref (cx_b G + 52), .ref (cx_b G + 53), .int (-1)]) := by rw [eM17, up_ne (by omega)]; exact f16_48
  have f17_0 : M17 0 = .inr (8, [.ref (cx_b G + 1), .ref (cx_b G + 19), .int 0, .ref (cx_b G + 37), .ref (cx_b G + 40), .int 0, .ref (cx_b G + 41), .ref (cx_b G + 48), .null]) := by rw [eM17]; exact up_at rfl
  have S : sg_ok G 1 (110) M17 s H locs (0 + 1 + 17 + 1 + 17 + 1 + 2 + 1 + 1 + 6 + 1 + 61) := by rw [eM17]; exact S
  refine lv_aload_n X.1.1 X.1.2.1 dX8_init_76 rfl (lv_at hl 0 rfl) ?_
  refine lv_iconst (v := 4) X.1.1 X.1.2.1 dX8_init_77 (by decide) ?_
  obtain ⟨M18, eM18⟩ : ∃ z, z = va_up M17 110 (.inl (cx_c G 6, 4, .inr (.inr (.inr (.inr (fun _ => none)))))) := ⟨_, rfl⟩
  have f18_1 : M18 1 = .inr (1, [.ref (cx_b G + 2), .ref (cx_b G + 3), .int 0, .int 0, .int 0, .int 60, .int 0, .int 0]) := by rw [eM18, up_ne (by omega)]; exact f17_1
  have f18_19 : M18 19 = .inr (1, [.ref (cx_b G + 20), .ref (cx_b G + 21), .int 0, .int 0, .int 0, .int 60, .int 0, .int 0]) := by rw [eM18, up_ne (by omega)]; exact f17_19
  have f18_37 : M18 37 = .inr (3, [.ref (cx_b G + 38), .int 0, .ref (cx_b G + 39), .int 0, .int 0, .int 0, .int 0, .int 0, .int 0, .int 0, .int 0]) := by rw [eM18, up_ne (by omega)]; exact f17_37
  have f18_40 : M18 40 = .inl (cx_c G 4, 6, .inr (.inr (.inr (.inr (fun _ => none))))) := by rw [eM18, up_ne (by omega)]; exact f17_40
  have f18_41 : M18 41 = .inr (0, [.ref (cx_b G + 1), .null, .ref (cx_b G + 42), .ref (cx_b G + 43), .ref (cx_b G + 44), .ref (cx_b G + 45), .ref (cx_b G + 46), .int 0, .ref (cx_b G + 47), .int 0, .int 0, .int 0, .int 0, .int 0, .int 0, .int 0]) := by rw [eM18, up_ne (by omega)]; exact f17_41
  have f18_48 : M18 48 = .inr (4, [.ref (cx_b G + 1), .ref (cx_b G + 49), .ref (cx_b G + 50), .ref (cx_b G + 51), .ref (cx_b G + 52), .ref (cx_b G + 53), .int (-1)]) := by rw [eM18, up_ne (by omega)]; exact f17_48
  have f18_0 : M18 0 = .inr (8, [.ref (cx_b G + 1), .ref (cx_b G + 19), .int 0, .ref (cx_b G + 37), .ref (cx_b G + 40), .int 0, .ref (cx_b G + 41), .ref (cx_b G + 48), .null]) := by rw [eM18, up_ne (by omega)]; exact f17_0
  have f18_110 : M18 110 = .inl (cx_c G 6, 4, .inr (.inr (.inr (.inr (fun _ => none))))) := by rw [eM18]; exact up_at rfl
  have S := S.to (M' := M18) (fun j hj => by rw [eM18, up_ne (by omega)])
  refine sg_newq (N := 4) X S 6 rfl (by decide) f18_110 (by decide) rfl (Nat.le_of_ble_eq_true rfl) (Nat.le_of_ble_eq_true rfl) (Nat.le_of_ble_eq_true rfl) kl_X8_48 dX8_init_78 (fun H S => ?_)
  refine sg_putF X hin2 S (by omega) f18_0 (show vwCl[8]? = some (RX8, TX8, 9) from rfl) in_X8 tyX8_ok nmX8 8 (by decide) rfl lk_X8_50 rfl rfl rfl (Nat.le_of_ble_eq_true rfl) dX8_init_81 (fun H locs S => ?_)
  obtain ⟨M19, eM19⟩ : ∃ z, z = va_up M18 0 (.inr (8, [.ref (cx_b G + 1), .ref (cx_b G + 19), .int 0, .ref (cx_b G + 37), .ref (cx_b G + 40), .int 0, .ref (cx_b G + 41), .ref (cx_b G + 48), .ref (cx_b G + 110)])) := ⟨_, rfl⟩
  have f19_1 : M19 1 = .inr (1, [.ref (cx_b G + 2), .ref (cx_b G + 3), .int 0, .int 0, .int 0, .int 60, .int 0, .int 0]) := by rw [eM19, up_ne (by omega)]; exact f18_1
  have f19_19 : M19 19 = .inr (1, [.ref (cx_b G + 20), .ref (cx_b G + 21), .int 0, .int 0, .int 0, .int 60, .int 0, .int 0]) := by rw [eM19, up_ne (by omega)]; exact f18_19
  have f19_37 : M19 37 = .inr (3, [.ref (cx_b G + 38), .int 0, .ref (cx_b G + 39), .int 0, .int 0, .int 0, .int 0, .int 0, .int 0, .int 0, .int 0]) := by rw [eM19, up_ne (by omega)]; exact f18_37
  have f19_40 : M19 40 = .inl (cx_c G 4, 6, .inr (.inr (.inr (.inr (fun _ => none))))) := by rw [eM19, up_ne (by omega)]; exact f18_40
  have f19_41 : M19 41 = .inr (0, [.ref (cx_b G + 1), .null, .ref (cx_b G + 42), .ref (cx_b G + 43), .ref (cx_b G + 44), .ref (cx_b G + 45), .ref (cx_b G + 46), .int 0, .ref (cx_b G + 47), .int 0, .int 0, .int 0, .int 0, .int 0, .int 0, .int 0]) := by rw [eM19, up_ne (by omega)]; exact f18_41
  have f19_48 : M19 48 = .inr (4, [.ref (cx_b G + 1), .ref (cx_b G + 49), .ref (cx_b G + 50), .ref (cx_b G + 51), .ref (cx_b G + 52), .ref (cx_b G + 53), .int (-1)]) := by rw [eM19, up_ne (by omega)]; exact f18_48
  have f19_110 : M19 110 = .inl (cx_c G 6, 4, .inr (.inr (.inr (.inr (fun _ => none))))) := by rw [eM19, up_ne (by omega)]; exact f18_110
  have f19_0 : M19 0 = .inr (8, [.ref (cx_b G + 1), .ref (cx_b G + 19), .int 0, .ref (cx_b G + 37), .ref (cx_b G + 40), .int 0, .ref (cx_b G + 41), .ref (cx_b G + 48), .ref (cx_b G + 110)]) := by rw [eM19]; exact up_at rfl
  have S : sg_ok G 1 (111) M19 s H locs (0 + 1 + 17 + 1 + 17 + 1 + 2 + 1 + 1 + 6 + 1 + 61 + 1) := by rw [eM19]; exact S
  have S : sg_ok G 1 111 (ly_cell G (mm_mx (ci_I 0) J)) s H locs (0 + 1 + 17 + 1 + 17 + 1 + 2 + 1 + 1 + 6 + 1 + 61 + 1) := ⟨by rw [ci_0]; exact gm_cellq (fun j hj => by rw [eM19, eM18, eM17, eM16, eM15, eM14, eM13, eM12, eM11, eM10, eM9, eM8, eM7, eM6, eM5, eM4, eM3, eM2, eM1]; exact ch_eq j hj) S.1, S.2⟩
  refine lv_iconst (v := 0) X.1.1 X.1.2.1 dX8_init_84 (by decide) ?_
  refine lv_istore_n (lv' := [(1, .int 0), (0, .ref (cx_b G + 0))]) X.1.1 X.1.2.1 dX8_init_85 rfl hl (by decide) rfl (fun ls hl => ?_)
  exact kw_X8_86 (T := ci_T) (U := ci_U) X hsz ci_r ci_g rfl (fun _ => rfl) rfl (fun _ => rfl) 53 0 (by omega) (by omega) nI_0.symm S hl
