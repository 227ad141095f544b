/-! ===== set ===== -/
theorem setN (a b : Int32) (h : ¬ a = b) : (a = b) = False := propext ⟨h, False.elim⟩
theorem i64_m99 : -Int32.toInt64 99 = (-99 : Int32).toInt64 := by decide
theorem i64_3 : (3 : Int64) = (3 : Int32).toInt64 := by decide
theorem s9_0_ok (P S : Nat) (J : mm_T) (p2 p3 : Int32) (hP : P ≤ 8) (hS : S ≤ 7) (h9 : J 9 0 9 = nI P) (h14 : J 9 0 14 = nI S) (c1 : inr P p2 = true) (c2 : inb 0 99 p3 = true) : f_X9_set fu J 0 p2 p3 = some (mm_up J 33 0 p2.toNatClampNeg p3, J 33 0 p2.toNatClampNeg) := by
  have ei : ix_in p2 8 = true := by obtain ⟨j, hj, rfl⟩ := inr_nI (by omega) c1; exact nI_ix (by omega) (by decide)
  simp only [f_X9_set, f_X9_set_L25, f_X9_set_L50, f_X9_set_L63, f_X9_set_L87, f_X9_set_L92, f_X9_set_L113, f_X9_set_L122, f_X9_set_L216, i64_0, i64_1, i64_2, i64_4, i64_6, i64_7, i64_9, i64_99, i64_m99, x9_in, pz_bd_s, show (inb 0 6 (0 : Int32)) = true by decide, show (inb 2 4 (0 : Int32)) = false by decide, show ((0 : Int32) = 1) = False by decide, show ((0 : Int32) = 2) = False by decide, show ((0 : Int32) = 3) = False by decide, show ((0 : Int32) = 4) = False by decide, show ((0 : Int32) = 5) = False by decide, show ((0 : Int32) = 6) = False by decide, show ((2 : Int32) ≤ 0) = False by decide, show b01 true = 1 from rfl, show b01 false = 0 from rfl, show ((1 : Int32) = 0) = False by decide, if_true, if_false, x9_isOne h9 (show P < 2147483648 by omega), x9_isSlip h14 (show S < 2147483648 by omega), c1, c2, pz_gd_t ei, pz_lt_d]
theorem s9_0_no (P S : Nat) (J : mm_T) (p2 p3 : Int32) (hP : P ≤ 8) (hS : S ≤ 7) (h9 : J 9 0 9 = nI P) (h14 : J 9 0 14 = nI S) (c : ¬ (inr P p2 = true ∧ inb 0 99 p3 = true)) : f_X9_set fu J 0 p2 p3 = some (J, -100000) := by
  by_cases c1 : inr P p2 = true
  · have c2 := Bool.eq_false_iff.mpr (fun h => c ⟨c1, h⟩)
    simp only [f_X9_set, f_X9_set_L25, f_X9_set_L50, f_X9_set_L63, f_X9_set_L87, f_X9_set_L92, f_X9_set_L113, f_X9_set_L122, f_X9_set_L216, i64_0, i64_1, i64_2, i64_4, i64_6, i64_7, i64_9, i64_99, i64_m99, x9_in, pz_bd_s, show (inb 0 6 (0 : Int32)) = true by decide, show (inb 2 4 (0 : Int32)) = false by decide, show ((0 : Int32) = 1) = False by decide, show ((0 : Int32) = 2) = False by decide, show ((0 : Int32) = 3) = False by decide, show ((0 : Int32) = 4) = False by decide, show ((0 : Int32) = 5) = False by decide, show ((0 : Int32) = 6) = False by decide, show ((2 : Int32) ≤ 0) = False by decide, show b01 true = 1 from rfl, show b01 false = 0 from rfl, show ((1 : Int32) = 0) = False by decide, if_true, if_false, x9_isOne h9 (show P < 2147483648 by omega), x9_isSlip h14 (show S < 2147483648 by omega), c1, c2]
  · have c1 := Bool.eq_false_iff.mpr c1
    simp only [f_X9_set, f_X9_set_L25, f_X9_set_L50, f_X9_set_L63, f_X9_set_L87, f_X9_set_L92, f_X9_set_L113, f_X9_set_L122, f_X9_set_L216, i64_0, i64_1, i64_2, i64_4, i64_6, i64_7, i64_9, i64_99, i64_m99, x9_in, pz_bd_s, show (inb 0 6 (0 : Int32)) = true by decide, show (inb 2 4 (0 : Int32)) = false by decide, show ((0 : Int32) = 1) = False by decide, show ((0 : Int32) = 2) = False by decide, show ((0 : Int32) = 3) = False by decide, show ((0 : Int32) = 4) = False by decide, show ((0 : Int32) = 5) = False by decide, show ((0 : Int32) = 6) = False by decide, show ((2 : Int32) ≤ 0) = False by decide, show b01 true = 1 from rfl, show b01 false = 0 from rfl, show ((1 : Int32) = 0) = False by decide, if_true, if_false, x9_isOne h9 (show P < 2147483648 by omega), x9_isSlip h14 (show S < 2147483648 by omega), c1]
theorem s1_0_ok (n P S : Nat) (I : mm_T) (p2 p3 : Int32) (hP : P ≤ 8) (hS : S ≤ 7) (h2 : I 1 0 2 = nI P) (h3 : I 1 0 3 = nI S) (c1 : inr P p2 = true) (c2 : inb 0 99 p3 = true) : f_X8_set fu n I 0 p2 p3 = some (mm_up (mm_up I 2 p2.toNatClampNeg 0 p3) 1 0 7 (I 1 0 7 + 1), I 2 p2.toNatClampNeg 0) := by
  have ei : ix_in p2 8 = true := by obtain ⟨j, hj, rfl⟩ := inr_nI (by omega) c1; exact nI_ix (by omega) (by decide)
  simp only [f_X8_set, f_X1_valueOf, f_X1_change, x1_v0 h2 (show P < 2147483648 by omega), x1_a0, pz_bd_s, pz_lt_d, pz_gd_t ei, c1, c2, mm_up_ne (show (1 : Nat) ≠ 2 by decide), Nat.mul_zero, Nat.zero_add, show ((0 : Int32) = 1) = False by decide, show ((0 : Int32) = 2) = False by decide, show ((0 : Int32) = 3) = False by decide, show ((0 : Int32) = 4) = False by decide, show ((0 : Int32) = 5) = False by decide, show ((0 : Int32) = 6) = False by decide, show b01 true = 1 from rfl, show b01 false = 0 from rfl, show ((1 : Int32) = 0) = False by decide, if_true, if_false]
theorem s1_0_no (n P S : Nat) (I : mm_T) (p2 p3 : Int32) (hP : P ≤ 8) (hS : S ≤ 7) (h2 : I 1 0 2 = nI P) (h3 : I 1 0 3 = nI S) (c : ¬ (inr P p2 = true ∧ inb 0 99 p3 = true)) : f_X8_set fu n I 0 p2 p3 = some (I, -100000) := by
  by_cases c1 : inr P p2 = true
  · have c2 := Bool.eq_false_iff.mpr (fun h => c ⟨c1, h⟩)
    simp only [f_X8_set, x1_v0 h2 (show P < 2147483648 by omega), x1_a0, pz_bd_s, c1, c2, show ((0 : Int32) = 1) = False by decide, show ((0 : Int32) = 2) = False by decide, show ((0 : Int32) = 3) = False by decide, show ((0 : Int32) = 4) = False by decide, show ((0 : Int32) = 5) = False by decide, show ((0 : Int32) = 6) = False by decide, show b01 true = 1 from rfl, show b01 false = 0 from rfl, show ((1 : Int32) = 0) = False by decide, if_true, if_false]
  · have c1 := Bool.eq_false_iff.mpr c1
    simp only [f_X8_set, x1_v0 h2 (show P < 2147483648 by omega), x1_a0, pz_bd_s, c1, show ((0 : Int32) = 1) = False by decide, show ((0 : Int32) = 2) = False by decide, show ((0 : Int32) = 3) = False by decide, show ((0 : Int32) = 4) = False by decide, show ((0 : Int32) = 5) = False by decide, show ((0 : Int32) = 6) = False by decide, show b01 true = 1 from rfl, show b01 false = 0 from rfl, show ((1 : Int32) = 0) = False by decide, if_true, if_false]
theorem s9_1_ok (P S : Nat) (J : mm_T) (p2 p3 : Int32) (hP : P ≤ 8) (hS : S ≤ 7) (h9 : J 9 0 9 = nI P) (h14 : J 9 0 14 = nI S) (c1 : inr P p2 = true) (c2 : inb 0 7 p3 = true) : f_X9_set fu J 1 p2 p3 = some (mm_up J 34 0 p2.toNatClampNeg p3, J 34 0 p2.toNatClampNeg) := by
  have ei : ix_in p2 8 = true := by obtain ⟨j, hj, rfl⟩ := inr_nI (by omega) c1; exact nI_ix (by omega) (by decide)
  simp only [f_X9_set, f_X9_set_L25, f_X9_set_L50, f_X9_set_L63, f_X9_set_L87, f_X9_set_L92, f_X9_set_L113, f_X9_set_L122, f_X9_set_L216, i64_0, i64_1, i64_2, i64_4, i64_6, i64_7, i64_9, i64_99, i64_m99, x9_in, pz_bd_s, show (inb 0 6 (1 : Int32)) = true by decide, show (inb 2 4 (1 : Int32)) = false by decide, show ((1 : Int32) = 0) = False by decide, show ((1 : Int32) = 2) = False by decide, show ((1 : Int32) = 3) = False by decide, show ((1 : Int32) = 4) = False by decide, show ((1 : Int32) = 5) = False by decide, show ((1 : Int32) = 6) = False by decide, show ((2 : Int32) ≤ 1) = False by decide, show b01 true = 1 from rfl, show b01 false = 0 from rfl, show ((1 : Int32) = 0) = False by decide, if_true, if_false, x9_isOne h9 (show P < 2147483648 by omega), x9_isSlip h14 (show S < 2147483648 by omega), c1, c2, pz_gd_t ei, pz_lt_d]
theorem s9_1_no (P S : Nat) (J : mm_T) (p2 p3 : Int32) (hP : P ≤ 8) (hS : S ≤ 7) (h9 : J 9 0 9 = nI P) (h14 : J 9 0 14 = nI S) (c : ¬ (inr P p2 = true ∧ inb 0 7 p3 = true)) : f_X9_set fu J 1 p2 p3 = some (J, -100000) := by
  by_cases c1 : inr P p2 = true
  · have c2 := Bool.eq_false_iff.mpr (fun h => c ⟨c1, h⟩)
    simp only [f_X9_set, f_X9_set_L25, f_X9_set_L50, f_X9_set_L63, f_X9_set_L87, f_X9_set_L92, f_X9_set_L113, f_X9_set_L122, f_X9_set_L216, i64_0, i64_1, i64_2, i64_4, i64_6, i64_7, i64_9, i64_99, i64_m99, x9_in, pz_bd_s, show (inb 0 6 (1 : Int32)) = true by decide, show (inb 2 4 (1 : Int32)) = false by decide, show ((1 : Int32) = 0) = False by decide, show ((1 : Int32) = 2) = False by decide, show ((1 : Int32) = 3) = False by decide, show ((1 : Int32) = 4) = False by decide, show ((1 : Int32) = 5) = False by decide, show ((1 : Int32) = 6) = False by decide, show ((2 : Int32) ≤ 1) = False by decide, show b01 true = 1 from rfl, show b01 false = 0 from rfl, show ((1 : Int32) = 0) = False by decide, if_true, if_false, x9_isOne h9 (show P < 2147483648 by omega), x9_isSlip h14 (show S < 2147483648 by omega), c1, c2]
  · have c1 := Bool.eq_false_iff.mpr c1
    simp only [f_X9_set, f_X9_set_L25, f_X9_set_L50, f_X9_set_L63, f_X9_set_L87, f_X9_set_L92, f_X9_set_L113, f_X9_set_L122, f_X9_set_L216, i64_0, i64_1, i64_2, i64_4, i64_6, i64_7, i64_9, i64_99, i64_m99, x9_in, pz_bd_s, show (inb 0 6 (1 : Int32)) = true by decide, show (inb 2 4 (1 : Int32)) = false by decide, show ((1 : Int32) = 0) = False by decide, show ((1 : Int32) = 2) = False by decide, show ((1 : Int32) = 3) = False by decide, show ((1 : Int32) = 4) = False by decide, show ((1 : Int32) = 5) = False by decide, show ((1 : Int32) = 6) = False by decide, show ((2 : Int32) ≤ 1) = False by decide, show b01 true = 1 from rfl, show b01 false = 0 from rfl, show ((1 : Int32) = 0) = False by decide, if_true, if_false, x9_isOne h9 (show P < 2147483648 by omega), x9_isSlip h14 (show S < 2147483648 by omega), c1]
theorem s1_1_ok (n P S : Nat) (I : mm_T) (p2 p3 : Int32) (hP : P ≤ 8) (hS : S ≤ 7) (h2 : I 1 0 2 = nI P) (h3 : I 1 0 3 = nI S) (c1 : inr P p2 = true) (c2 : inb 0 7 p3 = true) : f_X8_set fu n I 1 p2 p3 = some (mm_up (mm_up I 2 p2.toNatClampNeg 1 p3) 1 0 7 (I 1 0 7 + 1), I 2 p2.toNatClampNeg 1) := by
  have ei : ix_in p2 8 = true := by obtain ⟨j, hj, rfl⟩ := inr_nI (by omega) c1; exact nI_ix (by omega) (by decide)
  simp only [f_X8_set, f_X1_valueOf, f_X1_change, x1_v1 h2 (show P < 2147483648 by omega), x1_a1, pz_bd_s, pz_lt_d, pz_gd_t ei, c1, c2, mm_up_ne (show (1 : Nat) ≠ 2 by decide), Nat.mul_zero, Nat.zero_add, show ((1 : Int32) = 0) = False by decide, show ((1 : Int32) = 2) = False by decide, show ((1 : Int32) = 3) = False by decide, show ((1 : Int32) = 4) = False by decide, show ((1 : Int32) = 5) = False by decide, show ((1 : Int32) = 6) = False by decide, show b01 true = 1 from rfl, show b01 false = 0 from rfl, show ((1 : Int32) = 0) = False by decide, if_true, if_false]
theorem s1_1_no (n P S : Nat) (I : mm_T) (p2 p3 : Int32) (hP : P ≤ 8) (hS : S ≤ 7) (h2 : I 1 0 2 = nI P) (h3 : I 1 0 3 = nI S) (c : ¬ (inr P p2 = true ∧ inb 0 7 p3 = true)) : f_X8_set fu n I 1 p2 p3 = some (I, -100000) := by
  by_cases c1 : inr P p2 = true
  · have c2 := Bool.eq_false_iff.mpr (fun h => c ⟨c1, h⟩)
    simp only [f_X8_set, x1_v1 h2 (show P < 2147483648 by omega), x1_a1, pz_bd_s, c1, c2, show ((1 : Int32) = 0) = False by decide, show ((1 : Int32) = 2) = False by decide, show ((1 : Int32) = 3) = False by decide, show ((1 : Int32) = 4) = False by decide, show ((1 : Int32) = 5) = False by decide, show ((1 : Int32) = 6) = False by decide, show b01 true = 1 from rfl, show b01 false = 0 from rfl, show ((1 : Int32) = 0) = False by decide, if_true, if_false]
  · have c1 := Bool.eq_false_iff.mpr c1
    simp only [f_X8_set, x1_v1 h2 (show P < 2147483648 by omega), x1_a1, pz_bd_s, c1, show ((1 : Int32) = 0) = False by decide, show ((1 : Int32) = 2) = False by decide, show ((1 : Int32) = 3) = False by decide, show ((1 : Int32) = 4) = False by decide, show ((1 : Int32) = 5) = False by decide, show ((1 : Int32) = 6) = False by decide, show b01 true = 1 from rfl, show b01 false = 0 from rfl, show ((1 : Int32) = 0) = False by decide, if_true, if_false]
theorem s9_2_ok (P S : Nat) (J : mm_T) (p2 p3 : Int32) (hP : P ≤ 8) (hS : S ≤ 7) (h9 : J 9 0 9 = nI P) (h14 : J 9 0 14 = nI S) (c1 : inr S p2 = true) (c2 : inb 0 9 p3 = true) : f_X9_set fu J 2 p2 p3 = some (mm_up J 36 0 p2.toNatClampNeg p3, J 36 0 p2.toNatClampNeg) := by
  have ei : ix_in p2 7 = true := by obtain ⟨j, hj, rfl⟩ := inr_nI (by omega) c1; exact nI_ix (by omega) (by decide)
  simp only [f_X9_set, f_X9_set_L25, f_X9_set_L50, f_X9_set_L63, f_X9_set_L87, f_X9_set_L92, f_X9_set_L113, f_X9_set_L122, f_X9_set_L216, i64_0, i64_1, i64_2, i64_4, i64_6, i64_7, i64_9, i64_99, i64_m99, x9_in, pz_bd_s, show (inb 0 6 (2 : Int32)) = true by decide, show (inb 2 4 (2 : Int32)) = true by decide, show ((2 : Int32) = 0) = False by decide, show ((2 : Int32) = 1) = False by decide, show ((2 : Int32) = 3) = False by decide, show ((2 : Int32) = 4) = False by decide, show ((2 : Int32) = 5) = False by decide, show ((2 : Int32) = 6) = False by decide, show ((2 : Int32) ≤ 2) = True by decide, show b01 true = 1 from rfl, show b01 false = 0 from rfl, show ((1 : Int32) = 0) = False by decide, if_true, if_false, x9_isOne h9 (show P < 2147483648 by omega), x9_isSlip h14 (show S < 2147483648 by omega), c1, c2, pz_gd_t ei, pz_lt_d]
theorem s9_2_no (P S : Nat) (J : mm_T) (p2 p3 : Int32) (hP : P ≤ 8) (hS : S ≤ 7) (h9 : J 9 0 9 = nI P) (h14 : J 9 0 14 = nI S) (c : ¬ (inr S p2 = true ∧ inb 0 9 p3 = true)) : f_X9_set fu J 2 p2 p3 = some (J, -100000) := by
  by_cases c1 : inr S p2 = true
  · have c2 := Bool.eq_false_iff.mpr (fun h => c ⟨c1, h⟩)
    simp only [f_X9_set, f_X9_set_L25, f_X9_set_L50, f_X9_set_L63, f_X9_set_L87, f_X9_set_L92, f_X9_set_L113, f_X9_set_L122, f_X9_set_L216, i64_0, i64_1, i64_2, i64_4, i64_6, i64_7, i64_9, i64_99, i64_m99, x9_in, pz_bd_s, show (inb 0 6 (2 : Int32)) = true by decide, show (inb 2 4 (2 : Int32)) = true by decide, show ((2 : Int32) = 0) = False by decide, show ((2 : Int32) = 1) = False by decide, show ((2 : Int32) = 3) = False by decide, show ((2 : Int32) = 4) = False by decide, show ((2 : Int32) = 5) = False by decide, show ((2 : Int32) = 6) = False by decide, show ((2 : Int32) ≤ 2) = True by decide, show b01 true = 1 from rfl, show b01 false = 0 from rfl, show ((1 : Int32) = 0) = False by decide, if_true, if_false, x9_isOne h9 (show P < 2147483648 by omega), x9_isSlip h14 (show S < 2147483648 by omega), c1, c2]
  · have c1 := Bool.eq_false_iff.mpr c1
    simp only [f_X9_set, f_X9_set_L25, f_X9_set_L50, f_X9_set_L63, f_X9_set_L87, f_X9_set_L92, f_X9_set_L113, f_X9_set_L122, f_X9_set_L216, i64_0, i64_1, i64_2, i64_4, i64_6, i64_7, i64_9, i64_99, i64_m99, x9_in, pz_bd_s, show (inb 0 6 (2 : Int32)) = true by decide, show (inb 2 4 (2 : Int32)) = true by decide, show ((2 : Int32) = 0) = False by decide, show ((2 : Int32) = 1) = False by decide, show ((2 : Int32) = 3) = False by decide, show ((2 : Int32) = 4) = False by decide, show ((2 : Int32) = 5) = False by decide, show ((2 : Int32) = 6) = False by decide, show ((2 : Int32) ≤ 2) = True by decide, show b01 true = 1 from rfl, show b01 false = 0 from rfl, show ((1 : Int32) = 0) = False by decide, if_true, if_false, x9_isOne h9 (show P < 2147483648 by omega), x9_isSlip h14 (show S < 2147483648 by omega), c1]
theorem s1_2_ok (n P S : Nat) (I : mm_T) (p2 p3 : Int32) (hP : P ≤ 8) (hS : S ≤ 7) (h2 : I 1 0 2 = nI P) (h3 : I 1 0 3 = nI S) (c1 : inr S p2 = true) (c2 : inb 0 9 p3 = true) : f_X8_set fu n I 2 p2 p3 = some (mm_up (mm_up I 6 p2.toNatClampNeg 1 p3) 1 0 7 (I 1 0 7 + 1), I 6 p2.toNatClampNeg 1) := by
  have ei : ix_in p2 7 = true := by obtain ⟨j, hj, rfl⟩ := inr_nI (by omega) c1; exact nI_ix (by omega) (by decide)
  simp only [f_X8_set, f_X1_valueOf, f_X1_change, x1_v2 h3 (show S < 2147483648 by omega), x1_a2, pz_bd_s, pz_lt_d, pz_gd_t ei, c1, c2, mm_up_ne (show (1 : Nat) ≠ 6 by decide), Nat.mul_zero, Nat.zero_add, show ((2 : Int32) = 0) = False by decide, show ((2 : Int32) = 1) = False by decide, show ((2 : Int32) = 3) = False by decide, show ((2 : Int32) = 4) = False by decide, show ((2 : Int32) = 5) = False by decide, show ((2 : Int32) = 6) = False by decide, show b01 true = 1 from rfl, show b01 false = 0 from rfl, show ((1 : Int32) = 0) = False by decide, if_true, if_false]
theorem s1_2_no (n P S : Nat) (I : mm_T) (p2 p3 : Int32) (hP : P ≤ 8) (hS : S ≤ 7) (h2 : I 1 0 2 = nI P) (h3 : I 1 0 3 = nI S) (c : ¬ (inr S p2 = true ∧ inb 0 9 p3 = true)) : f_X8_set fu n I 2 p2 p3 = some (I, -100000) := by
  by_cases c1 : inr S p2 = true
  · have c2 := Bool.eq_false_iff.mpr (fun h => c ⟨c1, h⟩)
    simp only [f_X8_set, x1_v2 h3 (show S < 2147483648 by omega), x1_a2, pz_bd_s, c1, c2, show ((2 : Int32) = 0) = False by decide, show ((2 : Int32) = 1) = False by decide, show ((2 : Int32) = 3) = False by decide, show ((2 : Int32) = 4) = False by decide, show ((2 : Int32) = 5) = False by decide, show ((2 : Int32) = 6) = False by decide, show b01 true = 1 from rfl, show b01 false = 0 from rfl, show ((1 : Int32) = 0) = False by decide, if_true, if_false]
  · have c1 := Bool.eq_false_iff.mpr c1
    simp only [f_X8_set, x1_v2 h3 (show S < 2147483648 by omega), x1_a2, pz_bd_s, c1, show ((2 : Int32) = 0) = False by decide, show ((2 : Int32) = 1) = False by decide, show ((2 : Int32) = 3) = False by decide, show ((2 : Int32) = 4) = False by decide, show ((2 : Int32) = 5) = False by decide, show ((2 : Int32) = 6) = False by decide, show b01 true = 1 from rfl, show b01 false = 0 from rfl, show ((1 : Int32) = 0) = False by decide, if_true, if_false]
theorem s9_3_ok (P S : Nat) (J : mm_T) (p2 p3 : Int32) (hP : P ≤ 8) (hS : S ≤ 7) (h9 : J 9 0 9 = nI P) (h14 : J 9 0 14 = nI S) (c1 : inr S p2 = true) (c2 : inb 1 9 p3 = true) : f_X9_set fu J 3 p2 p3 = some (mm_up J 37 0 p2.toNatClampNeg p3, J 37 0 p2.toNatClampNeg) := by
  have ei : ix_in p2 7 = true := by obtain ⟨j, hj, rfl⟩ := inr_nI (by omega) c1; exact nI_ix (by omega) (by decide)
  simp only [f_X9_set, f_X9_set_L25, f_X9_set_L50, f_X9_set_L63, f_X9_set_L87, f_X9_set_L92, f_X9_set_L113, f_X9_set_L122, f_X9_set_L216, i64_0, i64_1, i64_2, i64_4, i64_6, i64_7, i64_9, i64_99, i64_m99, x9_in, pz_bd_s, show (inb 0 6 (3 : Int32)) = true by decide, show (inb 2 4 (3 : Int32)) = true by decide, show ((3 : Int32) = 0) = False by decide, show ((3 : Int32) = 1) = False by decide, show ((3 : Int32) = 2) = False by decide, show ((3 : Int32) = 4) = False by decide, show ((3 : Int32) = 5) = False by decide, show ((3 : Int32) = 6) = False by decide, show ((2 : Int32) ≤ 3) = True by decide, show b01 true = 1 from rfl, show b01 false = 0 from rfl, show ((1 : Int32) = 0) = False by decide, if_true, if_false, x9_isOne h9 (show P < 2147483648 by omega), x9_isSlip h14 (show S < 2147483648 by omega), c1, c2, pz_gd_t ei, pz_lt_d]
theorem s9_3_no (P S : Nat) (J : mm_T) (p2 p3 : Int32) (hP : P ≤ 8) (hS : S ≤ 7) (h9 : J 9 0 9 = nI P) (h14 : J 9 0 14 = nI S) (c : ¬ (inr S p2 = true ∧ inb 1 9 p3 = true)) : f_X9_set fu J 3 p2 p3 = some (J, -100000) := by
  by_cases c1 : inr S p2 = true
  · have c2 := Bool.eq_false_iff.mpr (fun h => c ⟨c1, h⟩)
    simp only [f_X9_set, f_X9_set_L25, f_X9_set_L50, f_X9_set_L63, f_X9_set_L87, f_X9_set_L92, f_X9_set_L113, f_X9_set_L122, f_X9_set_L216, i64_0, i64_1, i64_2, i64_4, i64_6, i64_7, i64_9, i64_99, i64_m99, x9_in, pz_bd_s, show (inb 0 6 (3 : Int32)) = true by decide, show (inb 2 4 (3 : Int32)) = true by decide, show ((3 : Int32) = 0) = False by decide, show ((3 : Int32) = 1) = False by decide, show ((3 : Int32) = 2) = False by decide, show ((3 : Int32) = 4) = False by decide, show ((3 : Int32) = 5) = False by decide, show ((3 : Int32) = 6) = False by decide, show ((2 : Int32) ≤ 3) = True by decide, show b01 true = 1 from rfl, show b01 false = 0 from rfl, show ((1 : Int32) = 0) = False by decide, if_true, if_false, x9_isOne h9 (show P < 2147483648 by omega), x9_isSlip h14 (show S < 2147483648 by omega), c1, c2]
  · have c1 := Bool.eq_false_iff.mpr c1
    simp only [f_X9_set, f_X9_set_L25, f_X9_set_L50, f_X9_set_L63, f_X9_set_L87, f_X9_set_L92, f_X9_set_L113, f_X9_set_L122, f_X9_set_L216, i64_0, i64_1, i64_2, i64_4, i64_6, i64_7, i64_9, i64_99, i64_m99, x9_in, pz_bd_s, show (inb 0 6 (3 : Int32)) = true by decide, show (inb 2 4 (3 : Int32)) = true by decide, show ((3 : Int32) = 0) = False by decide, show ((3 : Int32) = 1) = False by decide, show ((3 : Int32) = 2) = False by decide, show ((3 : Int32) = 4) = False by decide, show ((3 : Int32) = 5) = False by decide, show ((3 : Int32) = 6) = False by decide, show ((2 : Int32) ≤ 3) = True by decide, show b01 true = 1 from rfl, show b01 false = 0 from rfl, show ((1 : Int32) = 0) = False by decide, if_true, if_false, x9_isOne h9 (show P < 2147483648 by omega), x9_isSlip h14 (show S < 2147483648 by omega), c1]
theorem s1_3_ok (n P S : Nat) (I : mm_T) (p2 p3 : Int32) (hP : P ≤ 8) (hS : S ≤ 7) (h2 : I 1 0 2 = nI P) (h3 : I 1 0 3 = nI S) (c1 : inr S p2 = true) (c2 : inb 1 9 p3 = true) : f_X8_set fu n I 3 p2 p3 = some (mm_up (mm_up I 6 p2.toNatClampNeg 2 p3) 1 0 7 (I 1 0 7 + 1), I 6 p2.toNatClampNeg 2) := by
  have ei : ix_in p2 7 = true := by obtain ⟨j, hj, rfl⟩ := inr_nI (by omega) c1; exact nI_ix (by omega) (by decide)
  simp only [f_X8_set, f_X1_valueOf, f_X1_change, x1_v3 h3 (show S < 2147483648 by omega), x1_a3, pz_bd_s, pz_lt_d, pz_gd_t ei, c1, c2, mm_up_ne (show (1 : Nat) ≠ 6 by decide), Nat.mul_zero, Nat.zero_add, show ((3 : Int32) = 0) = False by decide, show ((3 : Int32) = 1) = False by decide, show ((3 : Int32) = 2) = False by decide, show ((3 : Int32) = 4) = False by decide, show ((3 : Int32) = 5) = False by decide, show ((3 : Int32) = 6) = False by decide, show b01 true = 1 from rfl, show b01 false = 0 from rfl, show ((1 : Int32) = 0) = False by decide, if_true, if_false]
theorem s1_3_no (n P S : Nat) (I : mm_T) (p2 p3 : Int32) (hP : P ≤ 8) (hS : S ≤ 7) (h2 : I 1 0 2 = nI P) (h3 : I 1 0 3 = nI S) (c : ¬ (inr S p2 = true ∧ inb 1 9 p3 = true)) : f_X8_set fu n I 3 p2 p3 = some (I, -100000) := by
  by_cases c1 : inr S p2 = true
  · have c2 := Bool.eq_false_iff.mpr (fun h => c ⟨c1, h⟩)
    simp only [f_X8_set, x1_v3 h3 (show S < 2147483648 by omega), x1_a3, pz_bd_s, c1, c2, show ((3 : Int32) = 0) = False by decide, show ((3 : Int32) = 1) = False by decide, show ((3 : Int32) = 2) = False by decide, show ((3 : Int32) = 4) = False by decide, show ((3 : Int32) = 5) = False by decide, show ((3 : Int32) = 6) = False by decide, show b01 true = 1 from rfl, show b01 false = 0 from rfl, show ((1 : Int32) = 0) = False by decide, if_true, if_false]
  · have c1 := Bool.eq_false_iff.mpr c1
    simp only [f_X8_set, x1_v3 h3 (show S < 2147483648 by omega), x1_a3, pz_bd_s, c1, show ((3 : Int32) = 0) = False by decide, show ((3 : Int32) = 1) = False by decide, show ((3 : Int32) = 2) = False by decide, show ((3 : Int32) = 4) = False by decide, show ((3 : Int32) = 5) = False by decide, show ((3 : Int32) = 6) = False by decide, show b01 true = 1 from rfl, show b01 false = 0 from rfl, show ((1 : Int32) = 0) = False by decide, if_true, if_false]
theorem s9_4_ok (P S : Nat) (J : mm_T) (p2 p3 : Int32) (hP : P ≤ 8) (hS : S ≤ 7) (h9 : J 9 0 9 = nI P) (h14 : J 9 0 14 = nI S) (c1 : inr S p2 = true) (c2 : inr P p3 = true) : f_X9_set fu J 4 p2 p3 = some (mm_up J 38 0 p2.toNatClampNeg p3, J 38 0 p2.toNatClampNeg) := by
  have ei : ix_in p2 7 = true := by obtain ⟨j, hj, rfl⟩ := inr_nI (by omega) c1; exact nI_ix (by omega) (by decide)
  have c3 : inb 0 99 p3 = true := by obtain ⟨j, hj, rfl⟩ := inr_nI (by omega) c2; rw [inb_iff, nI_int (by omega), show (0 : Int32).toInt = 0 by decide, show (99 : Int32).toInt = 99 by decide]; omega
  simp only [f_X9_set, f_X9_set_L25, f_X9_set_L50, f_X9_set_L63, f_X9_set_L87, f_X9_set_L92, f_X9_set_L113, f_X9_set_L122, f_X9_set_L216, i64_0, i64_1, i64_2, i64_4, i64_6, i64_7, i64_9, i64_99, i64_m99, x9_in, pz_bd_s, show (inb 0 6 (4 : Int32)) = true by decide, show (inb 2 4 (4 : Int32)) = true by decide, show ((4 : Int32) = 0) = False by decide, show ((4 : Int32) = 1) = False by decide, show ((4 : Int32) = 2) = False by decide, show ((4 : Int32) = 3) = False by decide, show ((4 : Int32) = 5) = False by decide, show ((4 : Int32) = 6) = False by decide, show ((2 : Int32) ≤ 4) = True by decide, show b01 true = 1 from rfl, show b01 false = 0 from rfl, show ((1 : Int32) = 0) = False by decide, if_true, if_false, x9_isOne h9 (show P < 2147483648 by omega), x9_isSlip h14 (show S < 2147483648 by omega), c1, c2, pz_gd_t ei, pz_lt_d, c3]
theorem s9_4_no (P S : Nat) (J : mm_T) (p2 p3 : Int32) (hP : P ≤ 8) (hS : S ≤ 7) (h9 : J 9 0 9 = nI P) (h14 : J 9 0 14 = nI S) (c : ¬ (inr S p2 = true ∧ inr P p3 = true)) : f_X9_set fu J 4 p2 p3 = some (J, -100000) := by
  by_cases c1 : inr S p2 = true
  · have c2 := Bool.eq_false_iff.mpr (fun h => c ⟨c1, h⟩)
    simp only [f_X9_set, f_X9_set_L25, f_X9_set_L50, f_X9_set_L63, f_X9_set_L87, f_X9_set_L92, f_X9_set_L113, f_X9_set_L122, f_X9_set_L216, i64_0, i64_1, i64_2, i64_4, i64_6, i64_7, i64_9, i64_99, i64_m99, x9_in, pz_bd_s, show (inb 0 6 (4 : Int32)) = true by decide, show (inb 2 4 (4 : Int32)) = true by decide, show ((4 : Int32) = 0) = False by decide, show ((4 : Int32) = 1) = False by decide, show ((4 : Int32) = 2) = False by decide, show ((4 : Int32) = 3) = False by decide, show ((4 : Int32) = 5) = False by decide, show ((4 : Int32) = 6) = False by decide, show ((2 : Int32) ≤ 4) = True by decide, show b01 true = 1 from rfl, show b01 false = 0 from rfl, show ((1 : Int32) = 0) = False by decide, if_true, if_false, x9_isOne h9 (show P < 2147483648 by omega), x9_isSlip h14 (show S < 2147483648 by omega), c1, c2]
  · have c1 := Bool.eq_false_iff.mpr c1
    simp only [f_X9_set, f_X9_set_L25, f_X9_set_L50, f_X9_set_L63, f_X9_set_L87, f_X9_set_L92, f_X9_set_L113, f_X9_set_L122, f_X9_set_L216, i64_0, i64_1, i64_2, i64_4, i64_6, i64_7, i64_9, i64_99, i64_m99, x9_in, pz_bd_s, show (inb 0 6 (4 : Int32)) = true by decide, show (inb 2 4 (4 : Int32)) = true by decide, show ((4 : Int32) = 0) = False by decide, show ((4 : Int32) = 1) = False by decide, show ((4 : Int32) = 2) = False by decide, show ((4 : Int32) = 3) = False by decide, show ((4 : Int32) = 5) = False by decide, show ((4 : Int32) = 6) = False by decide, show ((2 : Int32) ≤ 4) = True by decide, show b01 true = 1 from rfl, show b01 false = 0 from rfl, show ((1 : Int32) = 0) = False by decide, if_true, if_false, x9_isOne h9 (show P < 2147483648 by omega), x9_isSlip h14 (show S < 2147483648 by omega), c1]
theorem s1_4_ok (n P S : Nat) (I : mm_T) (p2 p3 : Int32) (hP : P ≤ 8) (hS : S ≤ 7) (h2 : I 1 0 2 = nI P) (h3 : I 1 0 3 = nI S) (c1 : inr S p2 = true) (c2 : inr P p3 = true) : f_X8_set fu n I 4 p2 p3 = some (mm_up (mm_up I 6 p2.toNatClampNeg 3 p3) 1 0 7 (I 1 0 7 + 1), I 6 p2.toNatClampNeg 3) := by
  have ei : ix_in p2 7 = true := by obtain ⟨j, hj, rfl⟩ := inr_nI (by omega) c1; exact nI_ix (by omega) (by decide)
  simp only [f_X8_set, f_X1_valueOf, f_X1_change, x1_v4 h3 (show S < 2147483648 by omega), x1_a4 h2 (show P < 2147483648 by omega), pz_bd_s, pz_lt_d, pz_gd_t ei, c1, c2, mm_up_ne (show (1 : Nat) ≠ 6 by decide), Nat.mul_zero, Nat.zero_add, show ((4 : Int32) = 0) = False by decide, show ((4 : Int32) = 1) = False by decide, show ((4 : Int32) = 2) = False by decide, show ((4 : Int32) = 3) = False by decide, show ((4 : Int32) = 5) = False by decide, show ((4 : Int32) = 6) = False by decide, show b01 true = 1 from rfl, show b01 false = 0 from rfl, show ((1 : Int32) = 0) = False by decide, if_true, if_false]
theorem s1_4_no (n P S : Nat) (I : mm_T) (p2 p3 : Int32) (hP : P ≤ 8) (hS : S ≤ 7) (h2 : I 1 0 2 = nI P) (h3 : I 1 0 3 = nI S) (c : ¬ (inr S p2 = true ∧ inr P p3 = true)) : f_X8_set fu n I 4 p2 p3 = some (I, -100000) := by
  by_cases c1 : inr S p2 = true
  · have c2 := Bool.eq_false_iff.mpr (fun h => c ⟨c1, h⟩)
    simp only [f_X8_set, x1_v4 h3 (show S < 2147483648 by omega), x1_a4 h2 (show P < 2147483648 by omega), pz_bd_s, c1, c2, show ((4 : Int32) = 0) = False by decide, show ((4 : Int32) = 1) = False by decide, show ((4 : Int32) = 2) = False by decide, show ((4 : Int32) = 3) = False by decide, show ((4 : Int32) = 5) = False by decide, show ((4 : Int32) = 6) = False by decide, show b01 true = 1 from rfl, show b01 false = 0 from rfl, show ((1 : Int32) = 0) = False by decide, if_true, if_false]
  · have c1 := Bool.eq_false_iff.mpr c1
    simp only [f_X8_set, x1_v4 h3 (show S < 2147483648 by omega), x1_a4 h2 (show P < 2147483648 by omega), pz_bd_s, c1, show ((4 : Int32) = 0) = False by decide, show ((4 : Int32) = 1) = False by decide, show ((4 : Int32) = 2) = False by decide, show ((4 : Int32) = 3) = False by decide, show ((4 : Int32) = 5) = False by decide, show ((4 : Int32) = 6) = False by decide, show b01 true = 1 from rfl, show b01 false = 0 from rfl, show ((1 : Int32) = 0) = False by decide, if_true, if_false]
theorem s9_5_ok (J : mm_T) (p2 p3 : Int32) (c2 : inb (-99) 99 p3 = true) : f_X9_set fu J 5 p2 p3 = some (mm_up J 9 0 15 p3, J 9 0 15) := by
  simp only [f_X9_set, f_X9_set_L25, f_X9_set_L50, f_X9_set_L63, f_X9_set_L87, f_X9_set_L92, f_X9_set_L113, f_X9_set_L122, f_X9_set_L216, i64_0, i64_1, i64_2, i64_4, i64_6, i64_7, i64_9, i64_99, i64_m99, x9_in, pz_bd_s, show (inb 0 6 (5 : Int32)) = true by decide, show (inb 2 4 (5 : Int32)) = false by decide, show ((5 : Int32) = 0) = False by decide, show ((5 : Int32) = 1) = False by decide, show ((5 : Int32) = 2) = False by decide, show ((5 : Int32) = 3) = False by decide, show ((5 : Int32) = 4) = False by decide, show ((5 : Int32) = 6) = False by decide, show ((2 : Int32) ≤ 5) = True by decide, show b01 true = 1 from rfl, show b01 false = 0 from rfl, show ((1 : Int32) = 0) = False by decide, if_true, if_false, c2, pz_lt_d]
theorem s9_5_no (J : mm_T) (p2 p3 : Int32) (c2 : ¬ inb (-99) 99 p3 = true) : f_X9_set fu J 5 p2 p3 = some (J, -100000) := by
  have c2 := Bool.eq_false_iff.mpr c2
  simp only [f_X9_set, f_X9_set_L25, f_X9_set_L50, f_X9_set_L63, f_X9_set_L87, f_X9_set_L92, f_X9_set_L113, f_X9_set_L122, f_X9_set_L216, i64_0, i64_1, i64_2, i64_4, i64_6, i64_7, i64_9, i64_99, i64_m99, x9_in, pz_bd_s, show (inb 0 6 (5 : Int32)) = true by decide, show (inb 2 4 (5 : Int32)) = false by decide, show ((5 : Int32) = 0) = False by decide, show ((5 : Int32) = 1) = False by decide, show ((5 : Int32) = 2) = False by decide, show ((5 : Int32) = 3) = False by decide, show ((5 : Int32) = 4) = False by decide, show ((5 : Int32) = 6) = False by decide, show ((2 : Int32) ≤ 5) = True by decide, show b01 true = 1 from rfl, show b01 false = 0 from rfl, show ((1 : Int32) = 0) = False by decide, if_true, if_false, c2]
theorem s1_5_ok (n : Nat) (I : mm_T) (p2 p3 : Int32) (c2 : inb (-99) 99 p3 = true) : f_X8_set fu n I 5 p2 p3 = some (mm_up (mm_up I 1 0 4 p3) 1 0 7 (I 1 0 7 + 1), I 1 0 4) := by
  have e7 : mm_up I 1 0 4 p3 1 0 7 = I 1 0 7 := by simp [mm_get]
  simp only [f_X8_set, f_X1_valueOf, f_X1_change, x1_v5, x1_a5, pz_bd_s, pz_lt_d, c2, e7, show ((5 : Int32) = 0) = False by decide, show ((5 : Int32) = 1) = False by decide, show ((5 : Int32) = 2) = False by decide, show ((5 : Int32) = 3) = False by decide, show ((5 : Int32) = 4) = False by decide, show ((5 : Int32) = 6) = False by decide, show b01 true = 1 from rfl, show b01 false = 0 from rfl, show ((1 : Int32) = 0) = False by decide, if_true, if_false]
theorem s1_5_no (n : Nat) (I : mm_T) (p2 p3 : Int32) (c2 : ¬ inb (-99) 99 p3 = true) : f_X8_set fu n I 5 p2 p3 = some (I, -100000) := by
  have c2 := Bool.eq_false_iff.mpr c2
  simp only [f_X8_set, x1_v5, x1_a5, pz_bd_s, c2, show ((5 : Int32) = 0) = False by decide, show ((5 : Int32) = 1) = False by decide, show ((5 : Int32) = 2) = False by decide, show ((5 : Int32) = 3) = False by decide, show ((5 : Int32) = 4) = False by decide, show ((5 : Int32) = 6) = False by decide, show b01 true = 1 from rfl, show b01 false = 0 from rfl, show ((1 : Int32) = 0) = False by decide, if_true, if_false]
theorem s9_6_ok (J : mm_T) (p2 p3 : Int32) (c2 : inb 1 99 p3 = true) : f_X9_set fu J 6 p2 p3 = some (mm_up J 9 0 16 p3, J 9 0 16) := by
  simp only [f_X9_set, f_X9_set_L25, f_X9_set_L50, f_X9_set_L63, f_X9_set_L87, f_X9_set_L92, f_X9_set_L113, f_X9_set_L122, f_X9_set_L216, i64_0, i64_1, i64_2, i64_4, i64_6, i64_7, i64_9, i64_99, i64_m99, x9_in, pz_bd_s, show (inb 0 6 (6 : Int32)) = true by decide, show (inb 2 4 (6 : Int32)) = false by decide, show ((6 : Int32) = 0) = False by decide, show ((6 : Int32) = 1) = False by decide, show ((6 : Int32) = 2) = False by decide, show ((6 : Int32) = 3) = False by decide, show ((6 : Int32) = 4) = False by decide, show ((6 : Int32) = 5) = False by decide, show ((2 : Int32) ≤ 6) = True by decide, show b01 true = 1 from rfl, show b01 false = 0 from rfl, show ((1 : Int32) = 0) = False by decide, if_true, if_false, c2, pz_lt_d]
theorem s9_6_no (J : mm_T) (p2 p3 : Int32) (c2 : ¬ inb 1 99 p3 = true) : f_X9_set fu J 6 p2 p3 = some (J, -100000) := by
  have c2 := Bool.eq_false_iff.mpr c2
  simp only [f_X9_set, f_X9_set_L25, f_X9_set_L50, f_X9_set_L63, f_X9_set_L87, f_X9_set_L92, f_X9_set_L113, f_X9_set_L122, f_X9_set_L216, i64_0, i64_1, i64_2, i64_4, i64_6, i64_7, i64_9, i64_99, i64_m99, x9_in, pz_bd_s, show (inb 0 6 (6 : Int32)) = true by decide, show (inb 2 4 (6 : Int32)) = false by decide, show ((6 : Int32) = 0) = False by decide, show ((6 : Int32) = 1) = False by decide, show ((6 : Int32) = 2) = False by decide, show ((6 : Int32) = 3) = False by decide, show ((6 : Int32) = 4) = False by decide, show ((6 : Int32) = 5) = False by decide, show ((2 : Int32) ≤ 6) = True by decide, show b01 true = 1 from rfl, show b01 false = 0 from rfl, show ((1 : Int32) = 0) = False by decide, if_true, if_false, c2]
theorem s1_6_ok (n : Nat) (I : mm_T) (p2 p3 : Int32) (c2 : inb 1 99 p3 = true) : f_X8_set fu n I 6 p2 p3 = some (mm_up (mm_up I 1 0 5 p3) 1 0 7 (I 1 0 7 + 1), I 1 0 5) := by
  have e7 : mm_up I 1 0 5 p3 1 0 7 = I 1 0 7 := by simp [mm_get]
  simp only [f_X8_set, f_X1_valueOf, f_X1_change, x1_v6, x1_a6, pz_bd_s, pz_lt_d, c2, e7, show ((6 : Int32) = 0) = False by decide, show ((6 : Int32) = 1) = False by decide, show ((6 : Int32) = 2) = False by decide, show ((6 : Int32) = 3) = False by decide, show ((6 : Int32) = 4) = False by decide, show ((6 : Int32) = 5) = False by decide, show b01 true = 1 from rfl, show b01 false = 0 from rfl, show ((1 : Int32) = 0) = False by decide, if_true, if_false]
theorem s1_6_no (n : Nat) (I : mm_T) (p2 p3 : Int32) (c2 : ¬ inb 1 99 p3 = true) : f_X8_set fu n I 6 p2 p3 = some (I, -100000) := by
  have c2 := Bool.eq_false_iff.mpr c2
  simp only [f_X8_set, x1_v6, x1_a6, pz_bd_s, c2, show ((6 : Int32) = 0) = False by decide, show ((6 : Int32) = 1) = False by decide, show ((6 : Int32) = 2) = False by decide, show ((6 : Int32) = 3) = False by decide, show ((6 : Int32) = 4) = False by decide, show ((6 : Int32) = 5) = False by decide, show b01 true = 1 from rfl, show b01 false = 0 from rfl, show ((1 : Int32) = 0) = False by decide, if_true, if_false]
theorem s9_z (J : mm_T) (p1 p2 p3 : Int32) (c : ¬ (0 ≤ p1.toInt ∧ p1.toInt ≤ 6)) : f_X9_set fu J p1 p2 p3 = some (J, -100000) := by
  have c1 : inb 0 6 p1 = false := Bool.eq_false_iff.mpr (fun h => c (inb_iff.mp h))
  simp only [f_X9_set, i64_0, i64_6, x9_in, pz_bd_s, c1, show b01 false = 0 from rfl, if_true]
theorem s1_z (n : Nat) (I : mm_T) (p1 p2 p3 : Int32) (c : ¬ (0 ≤ p1.toInt ∧ p1.toInt ≤ 6)) : f_X8_set fu n I p1 p2 p3 = some (I, -100000) := by
  simp only [f_X8_set, x1_vz c, pz_bd_s, if_true]
theorem up_facts {I : mm_T} {k i j : Nat} {v : Int32} : (∀ a, a ≠ k → mm_up I k i j v a = I a) ∧ (∀ b, b ≠ i → mm_up I k i j v k b = I k b) ∧ (∀ c, c ≠ j → mm_up I k i j v k i c = I k i c) ∧ mm_up I k i j v k i j = v :=
  ⟨fun _ h => mm_up_ne h, fun _ h => mm_up_ni h, fun c h => by rw [mm_up_at]; exact if_neg h, by rw [mm_up_at]; exact if_pos rfl⟩
theorem rc_set {c n : Nat} {I J : mm_T} {p1 p2 p3 : Int32} (hc : c < 100000) (h : RC c n I J) : ∃ (z v : mm_T × Int32) (c' : Nat), f_X8_set fu n I p1 p2 p3 = some z ∧ f_X9_set fu J p1 p2 p3 = some v ∧ z.2 = v.2 ∧ RC c' n z.1 v.1 ∧ c' ≤ c + 1 := by
  have hR := h
  obtain ⟨P, S, r, tc, B, h1, H, K, T, SS, X, C⟩ := h
  obtain ⟨⟨g1, g2, g3, g4, g5, g6⟩, ⟨q1, q2, q3, q4, q5, q6⟩, hP, hS⟩ := H
  by_cases hp : 0 ≤ p1.toInt ∧ p1.toInt ≤ 6
  · rcases i32_07 hp with rfl | rfl | rfl | rfl | rfl | rfl | rfl
    · by_cases cc : inr P p2 = true ∧ inb 0 99 p3 = true
      · obtain ⟨c1, c2⟩ := cc
        obtain ⟨x, hx, rfl⟩ := inr_nI (by omega) c1
        have e1 := s1_0_ok n P S I (nI x) p3 g1 g2 g3 g5 c1 c2
        have e2 := s9_0_ok P S J (nI x) p3 g1 g2 g4 g6 c1 c2
        rw [nI_cl (by omega)] at e1 e2
        refine ⟨_, _, c + 1, e1, e2, (hP x hx).1, ?_, by omega⟩
        obtain ⟨I', hI'⟩ : ∃ z, z = mm_up (mm_up I 2 x 0 p3) 1 0 7 (I 1 0 7 + 1) := ⟨_, rfl⟩
        obtain ⟨J', hJ'⟩ : ∃ z, z = mm_up J 33 0 x p3 := ⟨_, rfl⟩
        rw [← hI', ← hJ']
        show RC (c + 1) n I' J'
        have hIk : ∀ k, k ≠ 1 → k ≠ 2 → I' k = I k := fun k a1 a2 => by rw [hI', mm_up_ne a1, mm_up_ne a2]
        have hJk : ∀ k, k ≠ 33 → J' k = J k := fun k a => by rw [hJ', mm_up_ne a]
        have i1 : ∀ j, j ≠ 7 → I' 1 0 j = I 1 0 j := fun j b => by rw [hI', up_facts.2.2.1 j b, mm_up_ne (by decide)]
        have i11 : I' 1 1 = I 1 1 := by rw [hI', mm_up_ni (by decide), mm_up_ne (by decide)]
        have i17 : I' 1 0 7 = I 1 0 7 + 1 := by rw [hI', up_facts.2.2.2]
        have iz : ∀ b, b ≠ x → I' 2 b = I 2 b := fun b hb => by rw [hI', mm_up_ne (by decide), mm_up_ni hb]
        have ix : ∀ q, q ≠ 0 → I' 2 x q = I 2 x q := fun q hq => by rw [hI', mm_up_ne (by decide), up_facts.2.2.1 q hq]
        have ixx : I' 2 x 0 = p3 := by rw [hI', mm_up_ne (by decide), up_facts.2.2.2]
        have jx : ∀ q, q ≠ x → J' 33 0 q = J 33 0 q := fun q hq => by rw [hJ', up_facts.2.2.1 q hq]
        have jxx : J' 33 0 x = p3 := by rw [hJ', up_facts.2.2.2]
        have j9 : J' 9 = J 9 := hJk 9 (by decide)
        refine RC.house (P' := P) (S' := S) (r' := r) h1 ?_ ?_ T SS X C hc (fun k a1 a2 a6 => hIk k a1 a2) (fun k a9 a => hJk k (by omega)) (fun j _ _ _ _ _ => by rw [j9]) i17
        · unfold HI
          rw [j9]
          refine ⟨⟨g1, g2, by rw [i1 2 (by decide)]; exact g3, g4, by rw [i1 3 (by decide)]; exact g5, g6⟩, ⟨by rw [i1 4 (by decide)]; exact q1, by rw [i1 5 (by decide)]; exact q2, by rw [i1 6 (by decide)]; exact q3, q4, q5, q6⟩, fun p hp => ?_, fun s hs => ?_⟩
          · by_cases hpx : p = x
            · subst hpx
              rw [ixx, jxx, ix 1 (by decide), hJk 34 (by decide)]; exact ⟨rfl, (hP p hp).2⟩
            · rw [iz p hpx, jx p hpx, hJk 34 (by decide)]; exact hP p hp
          · rw [hIk 6 (by decide) (by decide), hJk 35 (by decide), hJk 36 (by decide), hJk 37 (by decide), hJk 38 (by decide)]; exact hS s hs
        · exact K.to (Nat.le_refl tc) (Nat.le_refl S) (by rw [hIk 8 (by decide) (by decide)]) (fun j _ _ => by rw [i11]) (fun p j => by rw [iz (8 + p) (by omega)]) (fun s j => by rw [hIk 6 (by decide) (by decide)]) (by rw [j9]) (by rw [j9]) (by rw [j9]) (by rw [j9]) (by rw [j9]) (by rw [hJk 45 (by decide)]) (by rw [hJk 46 (by decide)]) (fun s hs => by rw [hJk 35 (by decide)])
      · exact ⟨_, _, c, s1_0_no n P S I p2 p3 g1 g2 g3 g5 cc, s9_0_no P S J p2 p3 g1 g2 g4 g6 cc, rfl, hR, by omega⟩
    · by_cases cc : inr P p2 = true ∧ inb 0 7 p3 = true
      · obtain ⟨c1, c2⟩ := cc
        obtain ⟨x, hx, rfl⟩ := inr_nI (by omega) c1
        have e1 := s1_1_ok n P S I (nI x) p3 g1 g2 g3 g5 c1 c2
        have e2 := s9_1_ok P S J (nI x) p3 g1 g2 g4 g6 c1 c2
        rw [nI_cl (by omega)] at e1 e2
        refine ⟨_, _, c + 1, e1, e2, (hP x hx).2.1, ?_, by omega⟩
        obtain ⟨I', hI'⟩ : ∃ z, z = mm_up (mm_up I 2 x 1 p3) 1 0 7 (I 1 0 7 + 1) := ⟨_, rfl⟩
        obtain ⟨J', hJ'⟩ : ∃ z, z = mm_up J 34 0 x p3 := ⟨_, rfl⟩
        rw [← hI', ← hJ']
        show RC (c + 1) n I' J'
        have hIk : ∀ k, k ≠ 1 → k ≠ 2 → I' k = I k := fun k a1 a2 => by rw [hI', mm_up_ne a1, mm_up_ne a2]
        have hJk : ∀ k, k ≠ 34 → J' k = J k := fun k a => by rw [hJ', mm_up_ne a]
        have i1 : ∀ j, j ≠ 7 → I' 1 0 j = I 1 0 j := fun j b => by rw [hI', up_facts.2.2.1 j b, mm_up_ne (by decide)]
        have i11 : I' 1 1 = I 1 1 := by rw [hI', mm_up_ni (by decide), mm_up_ne (by decide)]
        have i17 : I' 1 0 7 = I 1 0 7 + 1 := by rw [hI', up_facts.2.2.2]
        have iz : ∀ b, b ≠ x → I' 2 b = I 2 b := fun b hb => by rw [hI', mm_up_ne (by decide), mm_up_ni hb]
        have ix : ∀ q, q ≠ 1 → I' 2 x q = I 2 x q := fun q hq => by rw [hI', mm_up_ne (by decide), up_facts.2.2.1 q hq]
        have ixx : I' 2 x 1 = p3 := by rw [hI', mm_up_ne (by decide), up_facts.2.2.2]
        have jx : ∀ q, q ≠ x → J' 34 0 q = J 34 0 q := fun q hq => by rw [hJ', up_facts.2.2.1 q hq]
        have jxx : J' 34 0 x = p3 := by rw [hJ', up_facts.2.2.2]
        have j9 : J' 9 = J 9 := hJk 9 (by decide)
        refine RC.house (P' := P) (S' := S) (r' := r) h1 ?_ ?_ T SS X C hc (fun k a1 a2 a6 => hIk k a1 a2) (fun k a9 a => hJk k (by omega)) (fun j _ _ _ _ _ => by rw [j9]) i17
        · unfold HI
          rw [j9]
          refine ⟨⟨g1, g2, by rw [i1 2 (by decide)]; exact g3, g4, by rw [i1 3 (by decide)]; exact g5, g6⟩, ⟨by rw [i1 4 (by decide)]; exact q1, by rw [i1 5 (by decide)]; exact q2, by rw [i1 6 (by decide)]; exact q3, q4, q5, q6⟩, fun p hp => ?_, fun s hs => ?_⟩
          · by_cases hpx : p = x
            · subst hpx
              obtain ⟨v, hv, ev⟩ : ∃ v, v < 8 ∧ p3 = nI v := by
                obtain ⟨j, hj, e⟩ := inr_nI (P := 8) (p := p3) (by decide) (by rw [inr_iff]; have := inb_iff.mp c2; rw [show (0 : Int32).toInt = 0 by decide, show (7 : Int32).toInt = 7 by decide] at this; omega)
                exact ⟨j, hj, e⟩
              rw [ixx, jxx, ix 0 (by decide), hJk 33 (by decide)]; exact ⟨(hP p hp).1, rfl, v, hv, ev⟩
            · rw [iz p hpx, jx p hpx, hJk 33 (by decide)]; exact hP p hp
          · rw [hIk 6 (by decide) (by decide), hJk 35 (by decide), hJk 36 (by decide), hJk 37 (by decide), hJk 38 (by decide)]; exact hS s hs
        · exact K.to (Nat.le_refl tc) (Nat.le_refl S) (by rw [hIk 8 (by decide) (by decide)]) (fun j _ _ => by rw [i11]) (fun p j => by rw [iz (8 + p) (by omega)]) (fun s j => by rw [hIk 6 (by decide) (by decide)]) (by rw [j9]) (by rw [j9]) (by rw [j9]) (by rw [j9]) (by rw [j9]) (by rw [hJk 45 (by decide)]) (by rw [hJk 46 (by decide)]) (fun s hs => by rw [hJk 35 (by decide)])
      · exact ⟨_, _, c, s1_1_no n P S I p2 p3 g1 g2 g3 g5 cc, s9_1_no P S J p2 p3 g1 g2 g4 g6 cc, rfl, hR, by omega⟩
    · by_cases cc : inr S p2 = true ∧ inb 0 9 p3 = true
      · obtain ⟨c1, c2⟩ := cc
        obtain ⟨x, hx, rfl⟩ := inr_nI (by omega) c1
        have e1 := s1_2_ok n P S I (nI x) p3 g1 g2 g3 g5 c1 c2
        have e2 := s9_2_ok P S J (nI x) p3 g1 g2 g4 g6 c1 c2
        rw [nI_cl (by omega)] at e1 e2
        refine ⟨_, _, c + 1, e1, e2, (hS x hx).2.1, ?_, by omega⟩
        obtain ⟨I', hI'⟩ : ∃ z, z = mm_up (mm_up I 6 x 1 p3) 1 0 7 (I 1 0 7 + 1) := ⟨_, rfl⟩
        obtain ⟨J', hJ'⟩ : ∃ z, z = mm_up J 36 0 x p3 := ⟨_, rfl⟩
        rw [← hI', ← hJ']
        show RC (c + 1) n I' J'
        have hIk : ∀ k, k ≠ 1 → k ≠ 6 → I' k = I k := fun k a1 a2 => by rw [hI', mm_up_ne a1, mm_up_ne a2]
        have hJk : ∀ k, k ≠ 36 → J' k = J k := fun k a => by rw [hJ', mm_up_ne a]
        have i1 : ∀ j, j ≠ 7 → I' 1 0 j = I 1 0 j := fun j b => by rw [hI', up_facts.2.2.1 j b, mm_up_ne (by decide)]
        have i11 : I' 1 1 = I 1 1 := by rw [hI', mm_up_ni (by decide), mm_up_ne (by decide)]
        have i17 : I' 1 0 7 = I 1 0 7 + 1 := by rw [hI', up_facts.2.2.2]
        have iz : ∀ b, b ≠ x → I' 6 b = I 6 b := fun b hb => by rw [hI', mm_up_ne (by decide), mm_up_ni hb]
        have ix : ∀ q, q ≠ 1 → I' 6 x q = I 6 x q := fun q hq => by rw [hI', mm_up_ne (by decide), up_facts.2.2.1 q hq]
        have ixx : I' 6 x 1 = p3 := by rw [hI', mm_up_ne (by decide), up_facts.2.2.2]
        have jx : ∀ q, q ≠ x → J' 36 0 q = J 36 0 q := fun q hq => by rw [hJ', up_facts.2.2.1 q hq]
        have jxx : J' 36 0 x = p3 := by rw [hJ', up_facts.2.2.2]
        have j9 : J' 9 = J 9 := hJk 9 (by decide)
        refine RC.house (P' := P) (S' := S) (r' := r) h1 ?_ ?_ T SS X C hc (fun k a1 a2 a6 => hIk k a1 a6) (fun k a9 a => hJk k (by omega)) (fun j _ _ _ _ _ => by rw [j9]) i17
        · unfold HI
          rw [j9]
          refine ⟨⟨g1, g2, by rw [i1 2 (by decide)]; exact g3, g4, by rw [i1 3 (by decide)]; exact g5, g6⟩, ⟨by rw [i1 4 (by decide)]; exact q1, by rw [i1 5 (by decide)]; exact q2, by rw [i1 6 (by decide)]; exact q3, q4, q5, q6⟩, fun p hp => ?_, fun s hs => ?_⟩
          · rw [hIk 2 (by decide) (by decide), hJk 33 (by decide), hJk 34 (by decide)]; exact hP p hp
          · by_cases hsx : s = x
            · subst hsx
              obtain ⟨b0, b1, b2, b3, b4, b5⟩ := hS s hs
              rw [ixx, jxx, ix 0 (by decide), ix 2 (by decide), ix 3 (by decide), hJk 35 (by decide), hJk 37 (by decide), hJk 38 (by decide)]
              exact ⟨b0, rfl, b2, b3, b4, b5⟩
            · rw [iz s hsx, jx s hsx, hJk 35 (by decide), hJk 37 (by decide), hJk 38 (by decide)]; exact hS s hs
        · exact K.to (Nat.le_refl tc) (Nat.le_refl S) (by rw [hIk 8 (by decide) (by decide)]) (fun j _ _ => by rw [i11]) (fun p j => by rw [hIk 2 (by decide) (by decide)]) (fun s j => by rw [iz (7 + s) (by omega)]) (by rw [j9]) (by rw [j9]) (by rw [j9]) (by rw [j9]) (by rw [j9]) (by rw [hJk 45 (by decide)]) (by rw [hJk 46 (by decide)]) (fun s hs => by rw [hJk 35 (by decide)])
      · exact ⟨_, _, c, s1_2_no n P S I p2 p3 g1 g2 g3 g5 cc, s9_2_no P S J p2 p3 g1 g2 g4 g6 cc, rfl, hR, by omega⟩
    · by_cases cc : inr S p2 = true ∧ inb 1 9 p3 = true
      · obtain ⟨c1, c2⟩ := cc
        obtain ⟨x, hx, rfl⟩ := inr_nI (by omega) c1
        have e1 := s1_3_ok n P S I (nI x) p3 g1 g2 g3 g5 c1 c2
        have e2 := s9_3_ok P S J (nI x) p3 g1 g2 g4 g6 c1 c2
        rw [nI_cl (by omega)] at e1 e2
        refine ⟨_, _, c + 1, e1, e2, (hS x hx).2.2.1, ?_, by omega⟩
        obtain ⟨I', hI'⟩ : ∃ z, z = mm_up (mm_up I 6 x 2 p3) 1 0 7 (I 1 0 7 + 1) := ⟨_, rfl⟩
        obtain ⟨J', hJ'⟩ : ∃ z, z = mm_up J 37 0 x p3 := ⟨_, rfl⟩
        rw [← hI', ← hJ']
        show RC (c + 1) n I' J'
        have hIk : ∀ k, k ≠ 1 → k ≠ 6 → I' k = I k := fun k a1 a2 => by rw [hI', mm_up_ne a1, mm_up_ne a2]
        have hJk : ∀ k, k ≠ 37 → J' k = J k := fun k a => by rw [hJ', mm_up_ne a]
        have i1 : ∀ j, j ≠ 7 → I' 1 0 j = I 1 0 j := fun j b => by rw [hI', up_facts.2.2.1 j b, mm_up_ne (by decide)]
        have i11 : I' 1 1 = I 1 1 := by rw [hI', mm_up_ni (by decide), mm_up_ne (by decide)]
        have i17 : I' 1 0 7 = I 1 0 7 + 1 := by rw [hI', up_facts.2.2.2]
        have iz : ∀ b, b ≠ x → I' 6 b = I 6 b := fun b hb => by rw [hI', mm_up_ne (by decide), mm_up_ni hb]
        have ix : ∀ q, q ≠ 2 → I' 6 x q = I 6 x q := fun q hq => by rw [hI', mm_up_ne (by decide), up_facts.2.2.1 q hq]
        have ixx : I' 6 x 2 = p3 := by rw [hI', mm_up_ne (by decide), up_facts.2.2.2]
        have jx : ∀ q, q ≠ x → J' 37 0 q = J 37 0 q := fun q hq => by rw [hJ', up_facts.2.2.1 q hq]
        have jxx : J' 37 0 x = p3 := by rw [hJ', up_facts.2.2.2]
        have j9 : J' 9 = J 9 := hJk 9 (by decide)
        refine RC.house (P' := P) (S' := S) (r' := r) h1 ?_ ?_ T SS X C hc (fun k a1 a2 a6 => hIk k a1 a6) (fun k a9 a => hJk k (by omega)) (fun j _ _ _ _ _ => by rw [j9]) i17
        · unfold HI
          rw [j9]
          refine ⟨⟨g1, g2, by rw [i1 2 (by decide)]; exact g3, g4, by rw [i1 3 (by decide)]; exact g5, g6⟩, ⟨by rw [i1 4 (by decide)]; exact q1, by rw [i1 5 (by decide)]; exact q2, by rw [i1 6 (by decide)]; exact q3, q4, q5, q6⟩, fun p hp => ?_, fun s hs => ?_⟩
          · rw [hIk 2 (by decide) (by decide), hJk 33 (by decide), hJk 34 (by decide)]; exact hP p hp
          · by_cases hsx : s = x
            · subst hsx
              obtain ⟨b0, b1, b2, b3, b4, b5⟩ := hS s hs
              rw [ixx, jxx, ix 0 (by decide), ix 1 (by decide), ix 3 (by decide), hJk 35 (by decide), hJk 36 (by decide), hJk 38 (by decide)]
              obtain ⟨kk, hkk, ek, _⟩ := b5
              obtain ⟨l, hl, el⟩ : ∃ v, v < 10 ∧ p3 = nI v := by
                obtain ⟨j, hj, e⟩ := inr_nI (P := 10) (p := p3) (by decide) (by rw [inr_iff]; have := inb_iff.mp c2; rw [show (1 : Int32).toInt = 1 by decide, show (9 : Int32).toInt = 9 by decide] at this; omega)
                exact ⟨j, hj, e⟩
              exact ⟨b0, b1, rfl, b3, b4, ⟨kk, hkk, ek, l, hl, el⟩⟩
            · rw [iz s hsx, jx s hsx, hJk 35 (by decide), hJk 36 (by decide), hJk 38 (by decide)]; exact hS s hs
        · exact K.to (Nat.le_refl tc) (Nat.le_refl S) (by rw [hIk 8 (by decide) (by decide)]) (fun j _ _ => by rw [i11]) (fun p j => by rw [hIk 2 (by decide) (by decide)]) (fun s j => by rw [iz (7 + s) (by omega)]) (by rw [j9]) (by rw [j9]) (by rw [j9]) (by rw [j9]) (by rw [j9]) (by rw [hJk 45 (by decide)]) (by rw [hJk 46 (by decide)]) (fun s hs => by rw [hJk 35 (by decide)])
      · exact ⟨_, _, c, s1_3_no n P S I p2 p3 g1 g2 g3 g5 cc, s9_3_no P S J p2 p3 g1 g2 g4 g6 cc, rfl, hR, by omega⟩
    · by_cases cc : inr S p2 = true ∧ inr P p3 = true
      · obtain ⟨c1, c2⟩ := cc
        obtain ⟨x, hx, rfl⟩ := inr_nI (by omega) c1
        have e1 := s1_4_ok n P S I (nI x) p3 g1 g2 g3 g5 c1 c2
        have e2 := s9_4_ok P S J (nI x) p3 g1 g2 g4 g6 c1 c2
        rw [nI_cl (by omega)] at e1 e2
        refine ⟨_, _, c + 1, e1, e2, (hS x hx).2.2.2.1, ?_, by omega⟩
        obtain ⟨I', hI'⟩ : ∃ z, z = mm_up (mm_up I 6 x 3 p3) 1 0 7 (I 1 0 7 + 1) := ⟨_, rfl⟩
        obtain ⟨J', hJ'⟩ : ∃ z, z = mm_up J 38 0 x p3 := ⟨_, rfl⟩
        rw [← hI', ← hJ']
        show RC (c + 1) n I' J'
        have hIk : ∀ k, k ≠ 1 → k ≠ 6 → I' k = I k := fun k a1 a2 => by rw [hI', mm_up_ne a1, mm_up_ne a2]
        have hJk : ∀ k, k ≠ 38 → J' k = J k := fun k a => by rw [hJ', mm_up_ne a]
        have i1 : ∀ j, j ≠ 7 → I' 1 0 j = I 1 0 j := fun j b => by rw [hI', up_facts.2.2.1 j b, mm_up_ne (by decide)]
        have i11 : I' 1 1 = I 1 1 := by rw [hI', mm_up_ni (by decide), mm_up_ne (by decide)]
        have i17 : I' 1 0 7 = I 1 0 7 + 1 := by rw [hI', up_facts.2.2.2]
        have iz : ∀ b, b ≠ x → I' 6 b = I 6 b := fun b hb => by rw [hI', mm_up_ne (by decide), mm_up_ni hb]
        have ix : ∀ q, q ≠ 3 → I' 6 x q = I 6 x q := fun q hq => by rw [hI', mm_up_ne (by decide), up_facts.2.2.1 q hq]
        have ixx : I' 6 x 3 = p3 := by rw [hI', mm_up_ne (by decide), up_facts.2.2.2]
        have jx : ∀ q, q ≠ x → J' 38 0 q = J 38 0 q := fun q hq => by rw [hJ', up_facts.2.2.1 q hq]
        have jxx : J' 38 0 x = p3 := by rw [hJ', up_facts.2.2.2]
        have j9 : J' 9 = J 9 := hJk 9 (by decide)
        refine RC.house (P' := P) (S' := S) (r' := r) h1 ?_ ?_ T SS X C hc (fun k a1 a2 a6 => hIk k a1 a6) (fun k a9 a => hJk k (by omega)) (fun j _ _ _ _ _ => by rw [j9]) i17
        · unfold HI
          rw [j9]
          refine ⟨⟨g1, g2, by rw [i1 2 (by decide)]; exact g3, g4, by rw [i1 3 (by decide)]; exact g5, g6⟩, ⟨by rw [i1 4 (by decide)]; exact q1, by rw [i1 5 (by decide)]; exact q2, by rw [i1 6 (by decide)]; exact q3, q4, q5, q6⟩, fun p hp => ?_, fun s hs => ?_⟩
          · rw [hIk 2 (by decide) (by decide), hJk 33 (by decide), hJk 34 (by decide)]; exact hP p hp
          · by_cases hsx : s = x
            · subst hsx
              obtain ⟨v, hv, ev⟩ := inr_nI (by omega) c2
              obtain ⟨b0, b1, b2, b3, b4, b5⟩ := hS s hs
              rw [ixx, jxx, ix 0 (by decide), ix 1 (by decide), ix 2 (by decide), hJk 35 (by decide), hJk 36 (by decide), hJk 37 (by decide)]
              exact ⟨b0, b1, b2, rfl, ⟨v, hv, ev⟩, b5⟩
            · rw [iz s hsx, jx s hsx, hJk 35 (by decide), hJk 36 (by decide), hJk 37 (by decide)]; exact hS s hs
        · exact K.to (Nat.le_refl tc) (Nat.le_refl S) (by rw [hIk 8 (by decide) (by decide)]) (fun j _ _ => by rw [i11]) (fun p j => by rw [hIk 2 (by decide) (by decide)]) (fun s j => by rw [iz (7 + s) (by omega)]) (by rw [j9]) (by rw [j9]) (by rw [j9]) (by rw [j9]) (by rw [j9]) (by rw [hJk 45 (by decide)]) (by rw [hJk 46 (by decide)]) (fun s hs => by rw [hJk 35 (by decide)])
      · exact ⟨_, _, c, s1_4_no n P S I p2 p3 g1 g2 g3 g5 cc, s9_4_no P S J p2 p3 g1 g2 g4 g6 cc, rfl, hR, by omega⟩
    · by_cases c2 : inb (-99) 99 p3 = true
      · refine ⟨_, _, c + 1, s1_5_ok n I p2 p3 c2, s9_5_ok J p2 p3 c2, q1, ?_, by omega⟩
        obtain ⟨I', hI'⟩ : ∃ z, z = mm_up (mm_up I 1 0 4 p3) 1 0 7 (I 1 0 7 + 1) := ⟨_, rfl⟩
        obtain ⟨J', hJ'⟩ : ∃ z, z = mm_up J 9 0 15 p3 := ⟨_, rfl⟩
        rw [← hI', ← hJ']
        show RC (c + 1) n I' J'
        have hIk : ∀ k, k ≠ 1 → I' k = I k := fun k a1 => by rw [hI', mm_up_ne a1, mm_up_ne a1]
        have hJk : ∀ k, k ≠ 9 → J' k = J k := fun k a => by rw [hJ', mm_up_ne a]
        have i1 : ∀ j, j ≠ 7 → j ≠ 4 → I' 1 0 j = I 1 0 j := fun j b b2 => by rw [hI', up_facts.2.2.1 j b, up_facts.2.2.1 j b2]
        have i1x : I' 1 0 4 = p3 := by rw [hI', up_facts.2.2.1 4 (by decide), up_facts.2.2.2]
        have i11 : I' 1 1 = I 1 1 := by rw [hI', mm_up_ni (by decide), mm_up_ni (by decide)]
        have i17 : I' 1 0 7 = I 1 0 7 + 1 := by rw [hI', up_facts.2.2.2]
        have j9 : ∀ q, q ≠ 15 → J' 9 0 q = J 9 0 q := fun q hq => by rw [hJ', up_facts.2.2.1 q hq]
        have j9x : J' 9 0 15 = p3 := by rw [hJ', up_facts.2.2.2]
        refine RC.house (P' := P) (S' := S) (r' := r) h1 ?_ ?_ T SS X C hc (fun k a1 a2 a6 => hIk k a1) (fun k a9 a => hJk k a9) (fun j b1 b2 b3 b4 b5 => j9 j (by omega)) i17
        · unfold HI
          rw [hIk 2 (by decide), hIk 6 (by decide), hJk 33 (by decide), hJk 34 (by decide), hJk 35 (by decide), hJk 36 (by decide), hJk 37 (by decide), hJk 38 (by decide), j9 9 (by decide), j9 14 (by decide), j9 4 (by decide), j9x, j9 16 (by decide)]
          have hb := inb_iff.mp c2
          rw [show (-99 : Int32).toInt = -99 by decide, show (99 : Int32).toInt = 99 by decide] at hb
          refine ⟨⟨g1, g2, by rw [i1 2 (by decide) (by decide)]; exact g3, g4, by rw [i1 3 (by decide) (by decide)]; exact g5, g6⟩, ⟨i1x, by rw [i1 5 (by decide) (by decide)]; exact q2, by rw [i1 6 (by decide) (by decide)]; exact q3, q4, hb.1, hb.2⟩, hP, hS⟩
        · exact K.to (Nat.le_refl tc) (Nat.le_refl S) (by rw [hIk 8 (by decide)]) (fun j _ _ => by rw [i11]) (fun p j => by rw [hIk 2 (by decide)]) (fun s j => by rw [hIk 6 (by decide)]) (j9 52 (by decide)) (j9 53 (by decide)) (j9 54 (by decide)) (j9 55 (by decide)) (j9 56 (by decide)) (by rw [hJk 45 (by decide)]) (by rw [hJk 46 (by decide)]) (fun s hs => by rw [hJk 35 (by decide)])
      · exact ⟨_, _, c, s1_5_no n I p2 p3 c2, s9_5_no J p2 p3 c2, rfl, hR, by omega⟩
    · by_cases c2 : inb 1 99 p3 = true
      · refine ⟨_, _, c + 1, s1_6_ok n I p2 p3 c2, s9_6_ok J p2 p3 c2, q2, ?_, by omega⟩
        obtain ⟨I', hI'⟩ : ∃ z, z = mm_up (mm_up I 1 0 5 p3) 1 0 7 (I 1 0 7 + 1) := ⟨_, rfl⟩
        obtain ⟨J', hJ'⟩ : ∃ z, z = mm_up J 9 0 16 p3 := ⟨_, rfl⟩
        rw [← hI', ← hJ']
        show RC (c + 1) n I' J'
        have hIk : ∀ k, k ≠ 1 → I' k = I k := fun k a1 => by rw [hI', mm_up_ne a1, mm_up_ne a1]
        have hJk : ∀ k, k ≠ 9 → J' k = J k := fun k a => by rw [hJ', mm_up_ne a]
        have i1 : ∀ j, j ≠ 7 → j ≠ 5 → I' 1 0 j = I 1 0 j := fun j b b2 => by rw [hI', up_facts.2.2.1 j b, up_facts.2.2.1 j b2]
        have i1x : I' 1 0 5 = p3 := by rw [hI', up_facts.2.2.1 5 (by decide), up_facts.2.2.2]
        have i11 : I' 1 1 = I 1 1 := by rw [hI', mm_up_ni (by decide), mm_up_ni (by decide)]
        have i17 : I' 1 0 7 = I 1 0 7 + 1 := by rw [hI', up_facts.2.2.2]
        have j9 : ∀ q, q ≠ 16 → J' 9 0 q = J 9 0 q := fun q hq => by rw [hJ', up_facts.2.2.1 q hq]
        have j9x : J' 9 0 16 = p3 := by rw [hJ', up_facts.2.2.2]
        refine RC.house (P' := P) (S' := S) (r' := r) h1 ?_ ?_ T SS X C hc (fun k a1 a2 a6 => hIk k a1) (fun k a9 a => hJk k a9) (fun j b1 b2 b3 b4 b5 => j9 j (by omega)) i17
        · unfold HI
          rw [hIk 2 (by decide), hIk 6 (by decide), hJk 33 (by decide), hJk 34 (by decide), hJk 35 (by decide), hJk 36 (by decide), hJk 37 (by decide), hJk 38 (by decide), j9 9 (by decide), j9 14 (by decide), j9 4 (by decide), j9x, j9 15 (by decide)]
          refine ⟨⟨g1, g2, by rw [i1 2 (by decide) (by decide)]; exact g3, g4, by rw [i1 3 (by decide) (by decide)]; exact g5, g6⟩, ⟨by rw [i1 4 (by decide) (by decide)]; exact q1, i1x, by rw [i1 6 (by decide) (by decide)]; exact q3, q4, q5, q6⟩, hP, hS⟩
        · exact K.to (Nat.le_refl tc) (Nat.le_refl S) (by rw [hIk 8 (by decide)]) (fun j _ _ => by rw [i11]) (fun p j => by rw [hIk 2 (by decide)]) (fun s j => by rw [hIk 6 (by decide)]) (j9 52 (by decide)) (j9 53 (by decide)) (j9 54 (by decide)) (j9 55 (by decide)) (j9 56 (by decide)) (by rw [hJk 45 (by decide)]) (by rw [hJk 46 (by decide)]) (fun s hs => by rw [hJk 35 (by decide)])
      · exact ⟨_, _, c, s1_6_no n I p2 p3 c2, s9_6_no J p2 p3 c2, rfl, hR, by omega⟩
  · exact ⟨_, _, c, s1_z n I p1 p2 p3 hp, s9_z J p1 p2 p3 hp, rfl, hR, by omega⟩
theorem sim_set : sm_set Inv := by
  intro k n I J p1 p2 p3 hk h
  obtain ⟨c, hc, h⟩ := h
  obtain ⟨z, v, c', e1, e2, e3, h', hc'⟩ := rc_set (p1 := p1) (p2 := p2) (p3 := p3) (by omega) h
  exact ⟨z, v, e1, e2, e3, c', by omega, h'⟩
