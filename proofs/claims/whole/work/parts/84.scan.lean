/-! ===== the end of a word, of a number ===== -/
def isl (v : Int32) : Bool := inb 97 122 v
def isd (v : Int32) : Bool := inb 48 57 v
theorem letter_c {N : Nat} {v : Int32} : f_X3_isLetter N v = some (b01 (isl v)) := by
  unfold f_X3_isLetter isl
  by_cases h : inb 97 122 v = true
  · have h' := inb_iff.mp h
    rw [h, if_neg (show ¬ v < 97 by rw [i32_lt]; omega), if_neg (show ¬ (122 : Int32) < v by rw [i32_lt]; omega)]; rfl
  · rw [b01_f h]
    rw [inb_iff] at h
    by_cases c : v < 97
    · rw [if_pos c]
    · rw [if_neg c, if_pos (by rw [i32_lt] at c ⊢; omega)]
theorem digit_c {N : Nat} {v : Int32} : f_X3_isDigit N v = some (b01 (isd v)) := by
  unfold f_X3_isDigit isd
  by_cases h : inb 48 57 v = true
  · have h' := inb_iff.mp h
    rw [h, if_neg (show ¬ v < 48 by rw [i32_lt]; omega), if_neg (show ¬ (57 : Int32) < v by rw [i32_lt]; omega)]; rfl
  · rw [b01_f h]
    rw [inb_iff] at h
    by_cases c : v < 48
    · rw [if_pos c]
    · rw [if_neg c, if_pos (by rw [i32_lt] at c ⊢; omega)]
theorem letter_9 {v : Int32} : f_X9_in fu v.toInt64 (97 : Int64) (122 : Int64) = some (b01 (isl v)) := by
  rw [show (97 : Int64) = (97 : Int32).toInt64 by decide, show (122 : Int64) = (122 : Int32).toInt64 by decide]; exact x9_in
theorem digit_9 {v : Int32} : f_X9_in fu v.toInt64 (48 : Int64) (57 : Int64) = some (b01 (isd v)) := by
  rw [show (48 : Int64) = (48 : Int32).toInt64 by decide, show (57 : Int64) = (57 : Int32).toInt64 by decide]; exact x9_in
/-- the first place from p on where g ends -/
theorem run_ex {B : Nat} (g : Nat → Bool) : ∀ (d p : Nat), p + d = B → ∃ q, p ≤ q ∧ q ≤ B ∧ (∀ x, p ≤ x → x < q → g x = true) ∧ (q < B → g q = false)
  | 0, p, h => ⟨p, Nat.le_refl _, by omega, fun x _ _ => by omega, fun _ => by omega⟩
  | d + 1, p, h => by
    by_cases hb : g p = true
    · obtain ⟨q, h1, h2, h3, h4⟩ := run_ex (B := B) g d (p + 1) (by omega)
      refine ⟨q, by omega, h2, fun x y1 y2 => ?_, h4⟩
      by_cases e : x = p
      · subst e; exact hb
      · exact h3 x (by omega) y2
    · exact ⟨p, Nat.le_refl _, by omega, fun x _ _ => by omega, fun _ => Bool.eq_false_iff.mpr hb⟩
theorem word_c {n B q : Nat} {w : Nat → Int32} (hB : B ≤ 160) (hq : q ≤ B) (hend : q < B → isl (w q) = false) : ∀ (d p cnt : Nat) (I : mm_T), p + d = q → d < cnt → (∀ x, p ≤ x → x < q → isl (w x) = true) → I 3 0 1 = nI B → I 3 0 9 = nI p → (∀ j, j < B → I 18 0 j = w j) → f_X3_readWord_L0 fu n cnt I = f_X3_readWord_L39 fu n (mm_up I 3 0 9 (nI q))
  | 0, p, cnt + 1, I, hd, hc, hb, h1, h9, hw => by
    have e : p = q := by omega
    subst e
    rw [mm_same h9]
    unfold f_X3_readWord_L0
    rw [h1, h9]
    by_cases c : B ≤ p
    · rw [if_pos (show nI B ≤ nI p by rw [i32_le, nI_int (by omega), nI_int (by omega)]; omega)]
    · rw [if_neg (show ¬ nI B ≤ nI p by rw [i32_le, nI_int (by omega), nI_int (by omega)]; omega), pz_gd_t (nI_ix (by omega) (by omega)), nI_cl (by omega), hw p (by omega), letter_c, hend (by omega), pz_bd_s, if_pos (show b01 false = 0 from rfl)]
  | d + 1, p, cnt + 1, I, hd, hc, hb, h1, h9, hw => by
    have ih := word_c (n := n) hB hq hend d (p + 1) cnt (mm_up I 3 0 9 (nI (p + 1))) (by omega) (by omega) (fun x y1 y2 => hb x (by omega) y2) (by rw [mm_get, if_neg (by omega)]; exact h1) (by rw [mm_get, if_pos ⟨rfl, rfl, rfl⟩]) (fun j hj => by rw [mm_up_ne (by decide)]; exact hw j hj)
    rw [mm_twice] at ih
    unfold f_X3_readWord_L0
    rw [h1, h9, if_neg (show ¬ nI B ≤ nI p by rw [i32_le, nI_int (by omega), nI_int (by omega)]; omega), pz_gd_t (nI_ix (by omega) (by omega)), nI_cl (by omega), hw p (by omega), letter_c, hb p (Nat.le_refl _) (by omega), pz_bd_s, if_neg (show ¬ b01 true = 0 by decide), pz_lt_n, nI_1, ih]
theorem word_r {B Sz t q : Nat} {w : Nat → Int32} {I : mm_T} (hq : q < 500) (hend : isl (bya B Sz w q) = false) : ∀ (d p cnt : Nat) (J : mm_T), p + d = q → d < cnt → BY B Sz t w I J → (∀ x, p ≤ x → x < q → isl (bya B Sz w x) = true) → J 9 0 25 = nI p → f_X9_next_L100 fu cnt J = some (mm_up J 9 0 25 (nI q))
  | 0, p, cnt + 1, J, hd, hc, hY, hb, h25 => by
    have e : p = q := by omega
    subst e
    rw [mm_same h25]
    unfold f_X9_next_L100
    rw [h25, byte_r hY (by omega), pz_bd_s, letter_9, hend, pz_bd_s, if_pos (show b01 false = 0 from rfl)]
  | d + 1, p, cnt + 1, J, hd, hc, hY, hb, h25 => by
    have ih := word_r (B := B) (Sz := Sz) (t := t) (w := w) (I := I) hq hend d (p + 1) cnt (mm_up J 9 0 25 (nI (p + 1))) (by omega) (by omega) (hY.up _ (by decide) (by decide)) (fun x y1 y2 => hb x (by omega) y2) (by rw [mm_get, if_pos ⟨rfl, rfl, rfl⟩])
    rw [mm_twice] at ih
    unfold f_X9_next_L100
    rw [h25, byte_r hY (by omega), pz_bd_s, letter_9, hb p (Nat.le_refl _) (by omega), pz_bd_s, if_neg (show ¬ b01 true = 0 by decide), pz_lt_n, nI_1, ih]
