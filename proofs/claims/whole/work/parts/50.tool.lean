/-! ===== tools of the pure part ===== -/
theorem pz_bd_s {α β : Type} {a : α} {f : α → Option β} : pz_bd (some a) f = f a := rfl
theorem pz_gd_t {α : Type} {c : Bool} {x : Option α} (h : c = true) : pz_gd c x = x := if_pos h
theorem pz_lt_d {α β : Type} {a : α} {f : α → β} : pz_lt a f = f a := rfl
theorem pz_bd_of {α β : Type} {x : Option α} {a : α} {f : α → Option β} (h : x = some a) : pz_bd x f = f a := by rw [h]; rfl
theorem mm_get {I : mm_T} {k i j : Nat} {v : Int32} (a b c : Nat) : mm_up I k i j v a b c = if a = k ∧ b = i ∧ c = j then v else I a b c := by
  by_cases ha : a = k
  · subst ha
    by_cases hb : b = i
    · subst hb
      rw [mm_up_at]
      unfold upd
      by_cases hc : c = j
      · rw [if_pos hc, if_pos ⟨rfl, rfl, hc⟩]
      · rw [if_neg hc, if_neg (fun h => hc h.2.2)]
    · rw [mm_up_ni hb, if_neg (fun h => hb h.2.1)]
  · rw [mm_up_ne ha, if_neg (fun h => ha h.1)]
theorem i32_le {x y : Int32} : x ≤ y ↔ x.toInt ≤ y.toInt := Int32.le_iff_toInt_le
theorem i32_lt {x y : Int32} : x < y ↔ x.toInt < y.toInt := Int32.lt_iff_toInt_lt
theorem i32_eq {x y : Int32} : x = y ↔ x.toInt = y.toInt := Int32.toInt_inj.symm
theorem nI_int {n : Nat} (h : n < 2147483648) : (nI n).toInt = (n : Int) := nI_toInt (by omega)
/-- a number of 0 .. P - 1 -/
def inr (P : Nat) (p : Int32) : Bool := decide (0 ≤ p.toInt ∧ p.toInt < (P : Int))
theorem inr_iff {P : Nat} {p : Int32} : inr P p = true ↔ 0 ≤ p.toInt ∧ p.toInt < (P : Int) := by unfold inr; exact decide_eq_true_iff
theorem inr_not {P : Nat} {p : Int32} : ¬ inr P p = true ↔ p.toInt < 0 ∨ (P : Int) ≤ p.toInt := by rw [inr_iff]; omega
theorem inr_nI {P : Nat} {p : Int32} (hP : P < 2147483648) (h : inr P p = true) : ∃ j, j < P ∧ p = nI j := by
  obtain ⟨h1, h2⟩ := inr_iff.mp h
  refine ⟨p.toInt.toNat, by omega, ?_⟩
  rw [i32_eq, nI_int (by omega)]
  omega
theorem nI_inr {P j : Nat} (hP : P < 2147483648) (h : j < P) : inr P (nI j) = true := by rw [inr_iff, nI_int (by omega)]; omega
theorem nI_ix {j N : Nat} (h : j < N) (hN : N < 2147483648) : ix_in (nI j) N = true := decide_eq_true (vp_in_nI h (by omega))
theorem nI_cl {n : Nat} (h : n < 2147483648) : (nI n).toNatClampNeg = n := nI_clamp (by omega)
theorem i64_le {x y : Int32} : x.toInt64 ≤ y.toInt64 ↔ x ≤ y := by rw [Int64.le_iff_toInt_le, i32_le, Int32.toInt_toInt64, Int32.toInt_toInt64]
theorem i64_lt {x y : Int32} : x.toInt64 < y.toInt64 ↔ x < y := by rw [Int64.lt_iff_toInt_lt, i32_lt, Int32.toInt_toInt64, Int32.toInt_toInt64]
/-- within two bounds -/
def inb (a b x : Int32) : Bool := decide (a.toInt ≤ x.toInt ∧ x.toInt ≤ b.toInt)
theorem inb_iff {a b x : Int32} : inb a b x = true ↔ a.toInt ≤ x.toInt ∧ x.toInt ≤ b.toInt := by unfold inb; exact decide_eq_true_iff
def b01 (c : Bool) : Int32 := if c = true then 1 else 0
theorem b01_t {c : Bool} (h : c = true) : b01 c = 1 := if_pos h
theorem b01_f {c : Bool} (h : ¬ c = true) : b01 c = 0 := if_neg h
theorem x9_in {N : Nat} {x a b : Int32} : f_X9_in N x.toInt64 a.toInt64 b.toInt64 = some (b01 (inb a b x)) := by
  unfold f_X9_in
  by_cases h1 : x.toInt < a.toInt
  · rw [if_pos (by rw [lg_cmp_lt, i64_lt, i32_lt]; exact h1), b01_f (by rw [inb_iff]; omega)]
  · rw [if_neg (by rw [lg_cmp_lt, i64_lt, i32_lt]; exact h1)]
    by_cases h2 : b.toInt < x.toInt
    · rw [if_pos (by rw [lg_cmp_gt, i64_lt, i32_lt]; exact h2), b01_f (by rw [inb_iff]; omega)]
    · rw [if_neg (by rw [lg_cmp_gt, i64_lt, i32_lt]; exact h2), b01_t (by rw [inb_iff]; omega)]
theorem b01_z {c : Bool} : pz_z (b01 c) = true := by cases c <;> decide
theorem nI_sub1 {n : Nat} (h0 : n < 2147483648) : (nI n - 1).toInt = (n : Int) - 1 := by
  rw [Int32.toInt_sub, nI_int h0, show (1 : Int32).toInt = 1 by decide]
  exact Int.bmod_eq_of_le (by omega) (by omega)
theorem x9_isOne {N P : Nat} {J : mm_T} (h : J 9 0 9 = nI P) (hP : P < 2147483648) {p : Int32} : f_X9_isOne N J p = some (b01 (inr P p)) := by
  unfold f_X9_isOne
  rw [show (0 : Int64) = (0 : Int32).toInt64 by decide, x9_in, pz_bd_s, pz_gd_t b01_z]
  congr 2
  rw [h]
  unfold inb inr
  congr 1
  rw [nI_sub1 hP, show (0 : Int32).toInt = 0 by decide]
  exact propext ⟨fun q => ⟨q.1, by omega⟩, fun q => ⟨q.1, by omega⟩⟩
theorem x9_isSlip {N P : Nat} {J : mm_T} (h : J 9 0 14 = nI P) (hP : P < 2147483648) {p : Int32} : f_X9_isSlip N J p = some (b01 (inr P p)) := by
  unfold f_X9_isSlip
  rw [show (0 : Int64) = (0 : Int32).toInt64 by decide, x9_in, pz_bd_s, pz_gd_t b01_z]
  congr 2
  rw [h]
  unfold inb inr
  congr 1
  rw [nI_sub1 hP, show (0 : Int32).toInt = 0 by decide]
  exact propext ⟨fun q => ⟨q.1, by omega⟩, fun q => ⟨q.1, by omega⟩⟩
theorem x1_hasPerson {N n P i : Nat} {I : mm_T} (h : I 1 i 2 = nI P) (hP : P < 2147483648) {p : Int32} : f_X1_hasPerson N n I i p = some (b01 (inr P p)) := by
  unfold f_X1_hasPerson
  rw [h]
  by_cases h1 : p < 0
  · rw [if_pos h1, b01_f]
    rw [i32_lt, show (0 : Int32).toInt = 0 by decide] at h1
    rw [inr_iff]; omega
  · rw [if_neg h1]
    rw [i32_lt, show (0 : Int32).toInt = 0 by decide] at h1
    by_cases h2 : nI P ≤ p
    · rw [if_pos h2, b01_f]
      rw [i32_le, nI_int hP] at h2
      rw [inr_iff]; omega
    · rw [if_neg h2, b01_t]
      rw [i32_le, nI_int hP] at h2
      rw [inr_iff]; omega
theorem x1_hasSlip {N n P i : Nat} {I : mm_T} (h : I 1 i 3 = nI P) (hP : P < 2147483648) {p : Int32} : f_X1_hasSlip N n I i p = some (b01 (inr P p)) := by
  unfold f_X1_hasSlip
  rw [h]
  by_cases h1 : p < 0
  · rw [if_pos h1, b01_f]
    rw [i32_lt, show (0 : Int32).toInt = 0 by decide] at h1
    rw [inr_iff]; omega
  · rw [if_neg h1]
    rw [i32_lt, show (0 : Int32).toInt = 0 by decide] at h1
    by_cases h2 : nI P ≤ p
    · rw [if_pos h2, b01_f]
      rw [i32_le, nI_int hP] at h2
      rw [inr_iff]; omega
    · rw [if_neg h2, b01_t]
      rw [i32_le, nI_int hP] at h2
      rw [inr_iff]; omega
theorem b01_ne {c : Bool} : b01 c = 0 ↔ ¬ c = true := by cases c <;> decide
theorem len_ex {p2 : Int32} (h : inb 10 99 p2 = true) : ∃ l, l < 10 ∧ p2 / 10 = nI l := by
  have h := inb_iff.mp h
  rw [show (10 : Int32).toInt = 10 by decide, show (99 : Int32).toInt = 99 by decide] at h
  refine ⟨p2.toInt.toNat / 10, by omega, ?_⟩
  rw [i32_eq, Int32.toInt_div, nI_int (by omega), show (10 : Int32).toInt = 10 by decide]
  obtain ⟨q, hq⟩ : ∃ q : Nat, p2.toInt = (q : Int) := ⟨p2.toInt.toNat, by omega⟩
  rw [hq] at h ⊢
  rw [Int.toNat_natCast, show (Int.tdiv (q : Int) 10) = ((q / 10 : Nat) : Int) from rfl]
  exact Int.bmod_eq_of_le (by omega) (by omega)
