/-! ===== numbers ===== -/
def dN (w : Nat → Int32) (p j : Nat) : Nat := (w (p + j)).toNatClampNeg - 48
def nvN (w : Nat → Int32) (p : Nat) : Nat → Nat
  | 0 => 0
  | d + 1 => nvN w p d * 10 + dN w p d
def nv (w : Nat → Int32) (p : Nat) : Nat → Int32
  | 0 => 0
  | d + 1 => nv w p d * 10 + w (p + d) - 48
theorem isd_nI {v : Int32} (h : isd v = true) : ∃ e, e < 10 ∧ v = nI (48 + e) ∧ v.toNatClampNeg - 48 = e := by
  have h' := inb_iff.mp h
  rw [show (48 : Int32).toInt = 48 by decide, show (57 : Int32).toInt = 57 by decide] at h'
  have e1 : v = nI v.toInt.toNat := by rw [i32_eq, nI_int (by omega)]; omega
  refine ⟨v.toInt.toNat - 48, by omega, ?_, ?_⟩
  · rw [show 48 + (v.toInt.toNat - 48) = v.toInt.toNat by omega]; exact e1
  · rw [e1, nI_cl (by omega), nI_int (by omega)]; omega
theorem nvN_lt {w : Nat → Int32} {p : Nat} : ∀ d, (∀ j, j < d → isd (w (p + j)) = true) → nvN w p d < 10 ^ d
  | 0, _ => by unfold nvN; omega
  | d + 1, h => by
    have ih := nvN_lt (w := w) (p := p) d (fun j hj => h j (by omega))
    obtain ⟨e, e1, e2, e3⟩ := isd_nI (h d (by omega))
    unfold nvN dN
    rw [e3, Nat.pow_succ]; omega
theorem nv_nI {w : Nat → Int32} {p : Nat} : ∀ d, d ≤ 4 → (∀ j, j < d → isd (w (p + j)) = true) → nv w p d = nI (nvN w p d)
  | 0, _, _ => rfl
  | d + 1, hd, h => by
    have ih := nv_nI (w := w) (p := p) d (by omega) (fun j hj => h j (by omega))
    obtain ⟨e, e1, e2, e3⟩ := isd_nI (h d (by omega))
    unfold nv nvN dN
    rw [ih, e3, nI_m10, e2, nI_add, show (48 : Int32) = nI 48 from rfl, nI_subn (by omega)]
    congr 1; omega
set_option maxRecDepth 100000 in
theorem i64_dig : ∀ m, m < 1000 → ∀ e, e < 10 → (((10 : Int64) * ((nI m).toInt64)) + ((nI (48 + e)).toInt64)) - (48 : Int64) = (nI (m * 10 + e)).toInt64 := by decide +kernel
theorem i64_back {x : Int32} : x.toInt64.toInt32 = x := by
  rw [i32_eq, Int64.toInt_toInt32, Int32.toInt_toInt64]
  have h1 := Int32.toInt_lt x
  have h2 := Int32.le_toInt x
  exact Int.bmod_eq_of_le (by omega) (by omega)
theorem num_c {n B p q : Nat} {w : Nat → Int32} (hB : B ≤ 160) (hq : q ≤ B) (hend : q < B → isd (w q) = false) : ∀ (d x cnt : Nat) (I : mm_T), x + d = q → p ≤ x → d < cnt → (∀ y, x ≤ y → y < q → isd (w y) = true) → I 3 0 1 = nI B → I 3 0 9 = nI x → I 3 0 7 = nv w p (x - p) → I 3 0 8 = nI p → (∀ j, j < B → I 18 0 j = w j) → ∃ I', f_X3_readNumber_L5 fu n cnt I = some I' ∧ (∀ k, k ≠ 3 → I' k = I k) ∧ (∀ j, j ≠ 6 → j ≠ 7 → j ≠ 9 → I' 3 0 j = I 3 0 j) ∧ I' 3 0 9 = nI q ∧ I' 3 0 7 = nv w p (q - p) ∧ I' 3 0 6 = if q - p ≤ 4 then 3 else 2
  | 0, x, cnt + 1, I, hd, hpx, hc, hb, h1, h9, h7, h8, hw => by
    have e : x = q := by omega
    subst e
    have fin : ∃ I', f_X3_readNumber_L68 fu n I = some I' ∧ (∀ k, k ≠ 3 → I' k = I k) ∧ (∀ j, j ≠ 6 → j ≠ 7 → j ≠ 9 → I' 3 0 j = I 3 0 j) ∧ I' 3 0 9 = nI x ∧ I' 3 0 7 = nv w p (x - p) ∧ I' 3 0 6 = if x - p ≤ 4 then 3 else 2 := by
      unfold f_X3_readNumber_L68
      rw [h9, h8, nI_subn hpx]
      simp only [pz_lt_n]
      by_cases c : x - p ≤ 4
      · rw [if_pos (show nI (x - p) ≤ 4 by rw [i32_le, nI_int (by omega), show (4 : Int32).toInt = 4 by decide]; omega), if_pos c]
        exact ⟨_, rfl, fun k hk => mm_up_ne hk, fun j j6 _ _ => by rw [mm_get, if_neg (fun q => j6 q.2.2)], by rw [mm_get, if_neg (by omega)]; exact h9, by rw [mm_get, if_neg (by omega)]; exact h7, by rw [mm_get, if_pos ⟨rfl, rfl, rfl⟩]⟩
      · rw [if_neg (show ¬ nI (x - p) ≤ 4 by rw [i32_le, nI_int (by omega), show (4 : Int32).toInt = 4 by decide]; omega), if_neg c]
        exact ⟨_, rfl, fun k hk => mm_up_ne hk, fun j j6 _ _ => by rw [mm_get, if_neg (fun q => j6 q.2.2)], by rw [mm_get, if_neg (by omega)]; exact h9, by rw [mm_get, if_neg (by omega)]; exact h7, by rw [mm_get, if_pos ⟨rfl, rfl, rfl⟩]⟩
    unfold f_X3_readNumber_L5
    rw [h1, h9]
    by_cases c : B ≤ x
    · rw [if_pos (show nI B ≤ nI x by rw [i32_le, nI_int (by omega), nI_int (by omega)]; omega)]; exact fin
    · rw [if_neg (show ¬ nI B ≤ nI x by rw [i32_le, nI_int (by omega), nI_int (by omega)]; omega), pz_gd_t (nI_ix (by omega) (by omega)), nI_cl (by omega), hw x (by omega), digit_c, hend (by omega), pz_bd_s, if_pos (show b01 false = 0 from rfl)]; exact fin
  | d + 1, x, cnt + 1, I, hd, hpx, hc, hb, h1, h9, h7, h8, hw => by
    generalize hI2 : mm_up (mm_up I 3 0 7 (nv w p (x - p) * 10 + w x - 48)) 3 0 9 (nI (x + 1)) = I2
    have env : nv w p (x + 1 - p) = nv w p (x - p) * 10 + w x - 48 := by
      rw [show x + 1 - p = (x - p) + 1 by omega]
      show nv w p (x - p) * 10 + w (p + (x - p)) - 48 = _
      rw [show p + (x - p) = x by omega]
    obtain ⟨I', g1, g2, g3, g4, g5, g6⟩ := num_c (n := n) (p := p) hB hq hend d (x + 1) cnt I2 (by omega) (by omega) (by omega) (fun y y1 y2 => hb y (by omega) y2) (by rw [← hI2, mm_get, if_neg (by omega), mm_get, if_neg (by omega)]; exact h1) (by rw [← hI2, mm_get, if_pos ⟨rfl, rfl, rfl⟩]) (by rw [← hI2, mm_get, if_neg (by omega), mm_get, if_pos ⟨rfl, rfl, rfl⟩, env]) (by rw [← hI2, mm_get, if_neg (by omega), mm_get, if_neg (by omega)]; exact h8) (fun j hj => by rw [← hI2, mm_up_ne (by decide), mm_up_ne (by decide)]; exact hw j hj)
    refine ⟨I', ?_, fun k hk => (g2 k hk).trans (by rw [← hI2, mm_up_ne hk, mm_up_ne hk]), fun j a b c => (g3 j a b c).trans (by rw [← hI2, mm_get, if_neg (fun q => c q.2.2), mm_get, if_neg (fun q => b q.2.2)]), g4, g5, g6⟩
    unfold f_X3_readNumber_L5
    rw [h1, h9, if_neg (show ¬ nI B ≤ nI x by rw [i32_le, nI_int (by omega), nI_int (by omega)]; omega), pz_gd_t (nI_ix (by omega) (by omega)), nI_cl (by omega), hw x (by omega), digit_c, hb x (Nat.le_refl _) (by omega), pz_bd_s, if_neg (show ¬ b01 true = 0 by decide), pz_gd_t (nI_ix (by omega) (by omega)), pz_lt_n, pz_lt_n, h7, mm_get, if_neg (by omega), h9, nI_1, hI2]
    exact g1
