theorem nvN_b {w : Nat → Int32} {p d : Nat} (hd : d ≤ 4) (h : ∀ j, j < d → isd (w (p + j)) = true) : nvN w p d < 10000 := by
  have h1 := nvN_lt (w := w) (p := p) d h
  have h2 : 10 ^ d ≤ 10 ^ 4 := Nat.pow_le_pow_right (by omega) hd
  omega
theorem num_r {B Sz t p q : Nat} {w : Nat → Int32} {I : mm_T} (hq : q ≤ B) (hend : isd (bya B Sz w q) = false) : ∀ (d x cnt : Nat) (J : mm_T), x + d = q → p ≤ x → d < cnt → BY B Sz t w I J → (∀ y, p ≤ y → y < q → isd (w y) = true) → J 9 0 25 = nI x → (x - p ≤ 4 → J 9 0 28 = nI (nvN w p (x - p))) → ∃ J', f_X9_next_L160 fu cnt J (nI (x - p)) = some J' ∧ (∀ k, k ≠ 9 → J' k = J k) ∧ (∀ j, j ≠ 25 → j ≠ 26 → j ≠ 28 → J' 9 0 j = J 9 0 j) ∧ J' 9 0 25 = nI q ∧ (q - p ≤ 4 → J' 9 0 26 = 2 ∧ J' 9 0 28 = nI (nvN w p (q - p))) ∧ (¬ q - p ≤ 4 → J' 9 0 26 = 4)
  | 0, x, cnt + 1, J, hd, hpx, hc, hY, hb, h25, h28 => by
    have hB : B ≤ 160 := by have := hY.1; omega
    have e : x = q := by omega
    subst e
    unfold f_X9_next_L160
    rw [h25, byte_r hY (by omega), pz_bd_s, digit_9, hend, pz_bd_s, if_pos (show b01 false = 0 from rfl)]
    simp only [pz_lt_n]
    by_cases c : x - p ≤ 4
    · rw [if_pos (show nI (x - p) ≤ 4 by rw [i32_le, nI_int (by omega), show (4 : Int32).toInt = 4 by decide]; omega)]
      exact ⟨_, rfl, fun k hk => mm_up_ne hk, fun j _ b _ => by rw [mm_get, if_neg (fun q => b q.2.2)], by rw [mm_get, if_neg (by omega)]; exact h25, fun _ => ⟨by rw [mm_get, if_pos ⟨rfl, rfl, rfl⟩], by rw [mm_get, if_neg (by omega)]; exact h28 c⟩, fun h => absurd c h⟩
    · rw [if_neg (show ¬ nI (x - p) ≤ 4 by rw [i32_le, nI_int (by omega), show (4 : Int32).toInt = 4 by decide]; omega)]
      exact ⟨_, rfl, fun k hk => mm_up_ne hk, fun j _ b _ => by rw [mm_get, if_neg (fun q => b q.2.2)], by rw [mm_get, if_neg (by omega)]; exact h25, fun h => absurd h c, fun _ => by rw [mm_get, if_pos ⟨rfl, rfl, rfl⟩]⟩
  | d + 1, x, cnt + 1, J, hd, hpx, hc, hY, hb, h25, h28 => by
    have hB : B ≤ 160 := by have := hY.1; omega
    have hbx : bya B Sz w x = w x := if_pos (by omega)
    have hdx := hb x hpx (by omega)
    have key : ∀ (v : Int32), (x + 1 - p ≤ 4 → v = nI (nvN w p (x + 1 - p))) → ∃ J', f_X9_next_L216 fu (f_X9_next_L160 fu cnt) J (nI (x - p)) v.toInt64 = some J' ∧ (∀ k, k ≠ 9 → J' k = J k) ∧ (∀ j, j ≠ 25 → j ≠ 26 → j ≠ 28 → J' 9 0 j = J 9 0 j) ∧ J' 9 0 25 = nI q ∧ (q - p ≤ 4 → J' 9 0 26 = 2 ∧ J' 9 0 28 = nI (nvN w p (q - p))) ∧ (¬ q - p ≤ 4 → J' 9 0 26 = 4) := by
      intro v hv
      generalize hJ2 : mm_up (mm_up J 9 0 28 v) 9 0 25 (nI (x + 1)) = J2
      obtain ⟨J', g1, g2, g3, g4, g5, g6⟩ := num_r (B := B) (Sz := Sz) (t := t) (p := p) (w := w) (I := I) hq hend d (x + 1) cnt J2 (by omega) (by omega) (by omega) (by rw [← hJ2]; exact (hY.up _ (by decide) (by decide)).up _ (by decide) (by decide)) hb (by rw [← hJ2, mm_get, if_pos ⟨rfl, rfl, rfl⟩]) (fun h => by rw [← hJ2, mm_get, if_neg (by omega), mm_get, if_pos ⟨rfl, rfl, rfl⟩]; exact hv h)
      refine ⟨J', ?_, fun k hk => (g2 k hk).trans (by rw [← hJ2, mm_up_ne hk, mm_up_ne hk]), fun j a b c => (g3 j a b c).trans (by rw [← hJ2, mm_get, if_neg (fun q => a q.2.2), mm_get, if_neg (fun q => c q.2.2)]), g4, g5, g6⟩
      unfold f_X9_next_L216
      rw [i64_back, pz_gd_t (decide_eq_true rfl), pz_lt_n, pz_lt_n, pz_lt_n, mm_get 9 0 25, if_neg (by omega), h25, nI_1, hJ2, nI_1, show x - p + 1 = x + 1 - p by omega]
      exact g1
    unfold f_X9_next_L160
    rw [h25, byte_r hY (by omega), pz_bd_s, digit_9, hbx, hdx, pz_bd_s, if_neg (show ¬ b01 true = 0 by decide)]
    by_cases c : x - p < 4
    · rw [if_neg (show ¬ (4 : Int32) ≤ nI (x - p) by rw [i32_le, nI_int (by omega), show (4 : Int32).toInt = 4 by decide]; omega), pz_bd_s]
      obtain ⟨e, e1, e2, e3⟩ := isd_nI hdx
      have hm : nvN w p (x - p) < 1000 := by
        have h1 := nvN_lt (w := w) (p := p) (x - p) (fun j hj => hb (p + j) (by omega) (by omega))
        have h2 : 10 ^ (x - p) ≤ 10 ^ 3 := Nat.pow_le_pow_right (by omega) (by omega)
        omega
      rw [h28 (by omega), e2, i64_dig _ hm e e1]
      refine key _ fun _ => ?_
      rw [show x + 1 - p = (x - p) + 1 by omega]
      show _ = nI (nvN w p (x - p) * 10 + dN w p (x - p))
      unfold dN
      rw [show p + (x - p) = x by omega, e3]
    · rw [if_pos (show (4 : Int32) ≤ nI (x - p) by rw [i32_le, nI_int (by omega), show (4 : Int32).toInt = 4 by decide]; omega)]
      exact key _ fun h => by omega
