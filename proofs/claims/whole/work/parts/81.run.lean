/-! ===== running code ===== -/
/-- text t's code has E places at least, k stands on the stack -/
theorem w_lt {n t i E len k lo cnt : Nat} {p1 : Int32} {I : mm_T} (ht : t < 1000) (hE : E ≤ len) (hl : len < 1000) (hlen : I 28 t 1000 = nI len) (hlo : lo < E) : f_X7_worth_L61 fu n (nI t) p1 i (cnt + 1) I (nI E) (nI k) (nI lo) = if 0 ≤ I 28 t lo then f_X7_worth_L102 fu n (nI t) p1 i (f_X7_worth_L61 fu n (nI t) p1 i cnt) I (nI E) (nI k) (nI lo) (I 28 t lo) ((-(I 28 t lo)) - 101) else (if ((-(I 28 t lo)) - 101) < 0 then f_X7_worth_L138 fu n (nI t) p1 i (f_X7_worth_L61 fu n (nI t) p1 i cnt) I (nI E) (nI k) (nI lo) (I 28 t lo) else (if 6 ≤ ((-(I 28 t lo)) - 101) then f_X7_worth_L138 fu n (nI t) p1 i (f_X7_worth_L61 fu n (nI t) p1 i cnt) I (nI E) (nI k) (nI lo) (I 28 t lo) else f_X7_worth_L102 fu n (nI t) p1 i (f_X7_worth_L61 fu n (nI t) p1 i cnt) I (nI E) (nI k) (nI lo) (I 28 t lo) ((-(I 28 t lo)) - 101))) := by
  conv => lhs; unfold f_X7_worth_L61
  rw [if_neg (show ¬ nI E ≤ nI lo by rw [i32_le, nI_int (by omega), nI_int (by omega)]; omega), nI_cl (show t < 2147483648 by omega), hlen, nI_cl (show len < 2147483648 by omega), pz_gd_t (nI_ix (by omega) (by omega)), nI_cl (show lo < 2147483648 by omega)]
  simp only [pz_lt_n]
  rfl
theorem w_push {n t i E k lo cnt : Nat} {p1 : Int32} {I : mm_T} (ht : t < 1000) (hk : k < 31) (v w : Int32) : f_X7_worth_L131 fu n (nI t) p1 i (f_X7_worth_L61 fu n (nI t) p1 i cnt) I (nI E) (nI k) (nI lo) v (nI k) = f_X7_worth_L61 fu n (nI t) p1 i cnt (mm_up I 29 t k v) (nI E) (nI (k + 1)) (nI (lo + 1)) := by
  unfold f_X7_worth_L131 f_X7_worth_L253
  rw [pz_gd_t (nI_ix hk (by omega)), nI_cl (by omega), nI_cl (by omega)]
  simp only [pz_lt_n, nI_1]
theorem w_num {n t i E len k lo cnt : Nat} {p1 : Int32} {I : mm_T} (ht : t < 1000) (hE : E ≤ len) (hl : len < 1000) (hlen : I 28 t 1000 = nI len) (hlo : lo < E) (hk : k < 31) (h : 0 ≤ I 28 t lo) : f_X7_worth_L61 fu n (nI t) p1 i (cnt + 1) I (nI E) (nI k) (nI lo) = f_X7_worth_L61 fu n (nI t) p1 i cnt (mm_up I 29 t k (I 28 t lo)) (nI E) (nI (k + 1)) (nI (lo + 1)) := by
  rw [w_lt ht hE hl hlen hlo, if_pos h]
  unfold f_X7_worth_L102
  rw [if_pos (show nI k < 31 from (nI_lt8 (M := 31) (by omega) (by omega)).mpr hk), if_neg (show ¬ I 28 t lo < 0 from fun q => by rw [i32_lt] at q; rw [i32_le] at h; omega)]
  exact w_push ht hk _ 0
theorem nm_code : ∀ j, j < 6 → ¬ (0 : Int32) ≤ -nI (101 + j) ∧ (-(-nI (101 + j))) - 101 = nI j ∧ ¬ nI j < 0 ∧ ¬ 6 ≤ nI j ∧ -nI (101 + j) < 0 := by decide
theorem w_name {n t i E len k lo cnt j : Nat} {p1 : Int32} {I : mm_T} (ht : t < 1000) (hE : E ≤ len) (hl : len < 1000) (hlen : I 28 t 1000 = nI len) (hlo : lo < E) (hk : k < 31) (hj : j < 6) (h : I 28 t lo = -nI (101 + j)) : f_X7_worth_L61 fu n (nI t) p1 i (cnt + 1) I (nI E) (nI k) (nI lo) = f_X7_worth_L61 fu n (nI t) p1 i cnt (mm_up I 29 t k (I 10 i j)) (nI E) (nI (k + 1)) (nI (lo + 1)) := by
  obtain ⟨a1, a2, a3, a4, a5⟩ := nm_code j hj
  rw [w_lt ht hE hl hlen hlo, h, if_neg a1, a2, if_neg a3, if_neg a4]
  unfold f_X7_worth_L102
  rw [if_pos (show nI k < 31 from (nI_lt8 (M := 31) (by omega) (by omega)).mpr hk), if_pos a5, pz_gd_t (nI_ix hj (by omega)), nI_cl (show j < 2147483648 by omega)]
  exact w_push ht hk _ 0
theorem w_neg {n t i E len k lo cnt : Nat} {p1 : Int32} {I : mm_T} (ht : t < 1000) (hE : E ≤ len) (hl : len < 1000) (hlen : I 28 t 1000 = nI len) (hlo : lo < E) (hk : k < 31) (h : I 28 t lo = -4) : f_X7_worth_L61 fu n (nI t) p1 i (cnt + 1) I (nI E) (nI (k + 1)) (nI lo) = f_X7_worth_L61 fu n (nI t) p1 i cnt (mm_up I 29 t k (-(I 29 t k))) (nI E) (nI (k + 1)) (nI (lo + 1)) := by
  have e1 : nI (k + 1) - 1 = nI k := nI_sub
  rw [w_lt ht hE hl hlen hlo, h, if_neg (by decide), if_pos (by decide)]
  unfold f_X7_worth_L138 f_X7_worth_L253
  rw [if_neg (show ¬ nI (k + 1) ≤ 0 by rw [i32_le, nI_int (by omega), show (0 : Int32).toInt = 0 by decide]; omega), if_pos rfl, e1, pz_gd_t (nI_ix hk (by omega)), pz_gd_t (nI_ix hk (by omega)), nI_cl (show t < 2147483648 by omega), nI_cl (show k < 2147483648 by omega)]
  simp only [pz_lt_n, nI_1]
theorem w_not {n t i E len k lo cnt : Nat} {p1 : Int32} {I : mm_T} (ht : t < 1000) (hE : E ≤ len) (hl : len < 1000) (hlen : I 28 t 1000 = nI len) (hlo : lo < E) (hk : k < 31) (h : I 28 t lo = -112) : f_X7_worth_L61 fu n (nI t) p1 i (cnt + 1) I (nI E) (nI (k + 1)) (nI lo) = f_X7_worth_L61 fu n (nI t) p1 i cnt (mm_up I 29 t k (if I 29 t k = 0 then 1 else 0)) (nI E) (nI (k + 1)) (nI (lo + 1)) := by
  have e1 : nI (k + 1) - 1 = nI k := nI_sub
  have e2 : ¬ nI (k + 1) ≤ 0 := by rw [i32_le, nI_int (by omega), show (0 : Int32).toInt = 0 by decide]; omega
  rw [w_lt ht hE hl hlen hlo, h, if_neg (by decide), if_neg (by decide), if_pos (by decide)]
  unfold f_X7_worth_L138 f_X7_worth_L172 f_X7_worth_L209 f_X7_worth_L253
  rw [if_neg e2, if_neg (show ¬ (-112 : Int32) = -4 by decide), if_neg e2, if_pos rfl, e1, pz_gd_t (nI_ix hk (by omega)), nI_cl (show t < 2147483648 by omega), nI_cl (show k < 2147483648 by omega)]
  simp only [pz_lt_n, nI_1, pz_gd_t (nI_ix hk (show 31 < 2147483648 by decide))]
  by_cases hz : I 29 t k = 0
  · rw [if_pos hz, if_pos hz]
  · rw [if_neg hz, if_neg hz]
theorem op_code {op : Int32} (h : isop op = true) : ¬ (0 : Int32) ≤ -op ∧ (((-(-op)) - 101) < 0 ∨ 6 ≤ ((-(-op)) - 101)) ∧ ¬ -op = -4 ∧ ¬ -op = -112 ∧ -(-op) = op := by
  unfold isop at h
  simp only [Bool.or_eq_true, decide_eq_true_eq] at h
  rcases h with (((((h | h) | h) | h) | h) | h) | h <;> subst h <;> decide
theorem w_bin {n t i E len k lo cnt : Nat} {p1 op : Int32} {I : mm_T} (ht : t < 1000) (hE : E ≤ len) (hl : len < 1000) (hlen : I 28 t 1000 = nI len) (hlo : lo < E) (hk : k + 1 < 31) (ho : isop op = true) (h : I 28 t lo = -op) : f_X7_worth_L61 fu n (nI t) p1 i (cnt + 1) I (nI E) (nI (k + 2)) (nI lo) = f_X7_worth_L61 fu n (nI t) p1 i cnt (mm_up I 29 t k (jo op (I 29 t k) (I 29 t (k + 1)))) (nI E) (nI (k + 1)) (nI (lo + 1)) := by
  obtain ⟨o1, o2, o3, o4, o5⟩ := op_code ho
  have e2 : ¬ nI (k + 2) ≤ 0 := by rw [i32_le, nI_int (by omega), show (0 : Int32).toInt = 0 by decide]; omega
  have e3 : ¬ nI (k + 2) ≤ 1 := by rw [i32_le, nI_int (by omega), show (1 : Int32).toInt = 1 by decide]; omega
  have e4 : nI (k + 2) + (-1 : Int32) = nI (k + 1) := by
    rw [← Int32.sub_eq_add_neg]; exact nI_sub (a := k + 1)
  have e5 : nI (k + 1) - 1 = nI k := nI_sub
  have main : f_X7_worth_L138 fu n (nI t) p1 i (f_X7_worth_L61 fu n (nI t) p1 i cnt) I (nI E) (nI (k + 2)) (nI lo) (-op) = f_X7_worth_L61 fu n (nI t) p1 i cnt (mm_up I 29 t k (jo op (I 29 t k) (I 29 t (k + 1)))) (nI E) (nI (k + 1)) (nI (lo + 1)) := by
    unfold f_X7_worth_L138 f_X7_worth_L172 f_X7_worth_L213 f_X7_worth_L253
    rw [if_neg e2, if_neg o3, if_neg e2, if_neg o4, if_neg e3]
    simp only [pz_lt_n, e4, e5, pz_gd_t (nI_ix (show k < 31 by omega) (show 31 < 2147483648 by decide)), pz_gd_t (nI_ix hk (show 31 < 2147483648 by decide)), nI_cl (show t < 2147483648 by omega), nI_cl (show k < 2147483648 by omega), nI_cl (show k + 1 < 2147483648 by omega), o5, jo_eq, pz_bd_n, nI_1]
  rw [w_lt ht hE hl hlen hlo, h, if_neg o1]
  rcases o2 with o2 | o2
  · rw [if_pos o2]; exact main
  · by_cases o6 : ((-(-op)) - 101) < 0
    · rw [if_pos o6]; exact main
    · rw [if_neg o6, if_pos o2]; exact main
/-- a segment runs -/
theorem seg_run {c a : Nat → Int32} {lo hi m : Nat} {v : Int32} (s : SEG c a lo hi v m) {n t i E len : Nat} {p1 : Int32} (ht : t < 1000) (hE : E ≤ len) (hl : len < 1000) : ∀ (k cnt : Nat) (I : mm_T), k + m ≤ 31 → hi ≤ E → I 28 t 1000 = nI len → (∀ j, j < hi → I 28 t j = c j) → I 10 i = a → ∃ f, (∀ j, j < k → f j = I 29 t j) ∧ f k = v ∧ f_X7_worth_L61 fu n (nI t) p1 i (cnt + (hi - lo)) I (nI E) (nI k) (nI lo) = f_X7_worth_L61 fu n (nI t) p1 i cnt (mm_row I 29 t f) (nI E) (nI (k + 1)) (nI hi) := by
  induction s using SEG.ind with
  | num h hm =>
    rename_i lo m
    intro k cnt I hk hhi hlen hc ha
    refine ⟨upd (I 29 t) k (c lo), fun j hj => upd_ne (by omega), upd_at, ?_⟩
    rw [show cnt + (lo + 1 - lo) = cnt + 1 by omega, w_num ht hE hl hlen (by omega) (by omega) (by rw [hc lo (by omega)]; exact h), hc lo (by omega)]; rfl
  | name hj h hm =>
    rename_i lo j m
    intro k cnt I hk hhi hlen hc ha
    refine ⟨upd (I 29 t) k (a j), fun j hj => upd_ne (by omega), upd_at, ?_⟩
    rw [show cnt + (lo + 1 - lo) = cnt + 1 by omega, w_name ht hE hl hlen (by omega) (by omega) hj (by rw [hc lo (by omega)]; exact h), ha]; rfl
  | neg s h ih =>
    rename_i lo hi m v
    intro k cnt I hk hhi hlen hc ha
    have hp := s.pos
    obtain ⟨f, f1, f2, f3⟩ := ih k (cnt + 1) I hk (by omega) hlen (fun j hj => hc j (by omega)) ha
    refine ⟨upd f k (-v), fun j hj => (upd_ne (by omega)).trans (f1 j hj), upd_at, ?_⟩
    rw [show cnt + (hi + 1 - lo) = cnt + 1 + (hi - lo) by omega, f3, w_neg ht hE hl (by rw [mm_row_ne (by decide)]; exact hlen) (by omega) (by omega) (by rw [mm_row_ne (by decide), hc hi (by omega)]; exact h), mm_row_at, f2]
    unfold mm_up; rw [mm_row_at, mm_row_row]
  | not s h ih =>
    rename_i lo hi m v
    intro k cnt I hk hhi hlen hc ha
    have hp := s.pos
    obtain ⟨f, f1, f2, f3⟩ := ih k (cnt + 1) I hk (by omega) hlen (fun j hj => hc j (by omega)) ha
    refine ⟨upd f k (if v = 0 then 1 else 0), fun j hj => (upd_ne (by omega)).trans (f1 j hj), upd_at, ?_⟩
    rw [show cnt + (hi + 1 - lo) = cnt + 1 + (hi - lo) by omega, f3, w_not ht hE hl (by rw [mm_row_ne (by decide)]; exact hlen) (by omega) (by omega) (by rw [mm_row_ne (by decide), hc hi (by omega)]; exact h), mm_row_at, f2]
    unfold mm_up; rw [mm_row_at, mm_row_row]
  | bin s1 s2 h1 ho h ih1 ih2 =>
    rename_i lo mid hi m1 m2 x y op
    intro k cnt I hk hhi hlen hc ha
    have hp1 := s1.pos
    have hp2 := s2.pos
    obtain ⟨f, f1, f2, f3⟩ := ih1 k (cnt + 1 + (hi - mid)) I (by omega) (by omega) hlen (fun j hj => hc j (by omega)) ha
    obtain ⟨g, g1, g2, g3⟩ := ih2 (k + 1) (cnt + 1) (mm_row I 29 t f) (by omega) (by omega) (by rw [mm_row_ne (by decide)]; exact hlen) (fun j hj => by rw [mm_row_ne (by decide)]; exact hc j (by omega)) (by rw [mm_row_ne (by decide)]; exact ha)
    rw [mm_row_at] at g1
    rw [mm_row_row] at g3
    refine ⟨upd g k (jo op x y), fun j hj => (upd_ne (by omega)).trans ((g1 j (by omega)).trans (f1 j hj)), upd_at, ?_⟩
    rw [show cnt + (hi + 1 - lo) = cnt + 1 + (hi - mid) + (mid - lo) by omega, f3, g3, w_bin ht hE hl (by rw [mm_row_ne (by decide)]; exact hlen) (by omega) (by omega) ho (by rw [mm_row_ne (by decide), hc hi (by omega)]; exact h), mm_row_at, g2, g1 k (by omega), f2]
    unfold mm_up; rw [mm_row_at, mm_row_row]
