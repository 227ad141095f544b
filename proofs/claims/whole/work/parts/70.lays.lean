/-! ===== best: what the reference lays aside ===== -/
theorem n7 {D : Nat} : (7 : Int32) * nI D = nI (7 * D) := (Int32.ofNat_mul 7 D).symm
theorem n8 {D g : Nat} : (8 : Int32) * nI D + nI g = nI (8 * D + g) := by
  rw [show (8 : Int32) * nI D = nI (8 * D) from (Int32.ofNat_mul 8 D).symm]; exact nI_add _ _
def RJ (J J' : mm_T) : Prop := (J' 9 0 32 = J 9 0 32 ∧ J' 9 0 33 = J 9 0 33 ∧ J' 9 0 34 = J 9 0 34 ∧ J' 9 0 35 = J 9 0 35 ∧ J' 9 0 36 = J 9 0 36 ∧ J' 9 0 39 = J 9 0 39 ∧ J' 9 0 40 = J 9 0 40) ∧ ∀ g, g < 8 → J' 39 0 g = J 39 0 g ∧ J' 40 0 g = J 40 0 g
theorem lay_L {p1 : Int32} {D : Nat} (hD : D < 8) : ∀ (d s cnt : Nat) (J : mm_T), s + d = 8 → d < cnt → ∃ J', f_X9_lays_L90 fu p1 cnt J (nI D) (nI s) = some J' ∧ (∀ k, k ≠ 43 → k ≠ 44 → J' k = J k) ∧ (∀ x, (x < 8 * D + s ∨ 8 * D + 8 ≤ x) → J' 43 0 x = J 43 0 x ∧ J' 44 0 x = J 44 0 x) ∧ ∀ g, s ≤ g → g < 8 → J' 43 0 (8 * D + g) = J 39 0 g ∧ J' 44 0 (8 * D + g) = J 40 0 g
  | 0, s, cnt + 1, J, hs, hc => by
    have e1 : (8 : Int32) ≤ nI s := by rw [i32_le, nI_int (by omega), show (8 : Int32).toInt = 8 by decide]; omega
    refine ⟨J, ?_, fun _ _ _ => rfl, fun _ _ => ⟨rfl, rfl⟩, fun g h1 h2 => by omega⟩
    unfold f_X9_lays_L90; rw [if_pos e1]
  | d + 1, s, cnt + 1, J, hs, hc => by
    have e1 : ¬ (8 : Int32) ≤ nI s := by rw [i32_le, nI_int (by omega), show (8 : Int32).toInt = 8 by decide]; omega
    generalize hJ2 : mm_up (mm_up J 43 0 (8 * D + s) (J 39 0 s)) 44 0 (8 * D + s) (J 40 0 s) = J2
    obtain ⟨J', h1, h2, h3, h4⟩ := lay_L (p1 := p1) hD d (s + 1) cnt J2 (by omega) (by omega)
    refine ⟨J', ?_, fun k k1 k2 => ?_, fun x hx => ?_, fun g g1 g2 => ?_⟩
    · unfold f_X9_lays_L90; rw [if_neg e1]
      simp only [pz_gd_t (nI_ix (show s < 8 by omega) (show 8 < 2147483648 by decide)), pz_lt_n, nI_cl (show s < 2147483648 by omega), n8, pz_gd_t (nI_ix (show 8 * D + s < 64 by omega) (show 64 < 2147483648 by decide)), nI_cl (show 8 * D + s < 2147483648 by omega), nI_1]
      rw [mm_up_ne (show 40 ≠ 43 by decide), hJ2]
      exact h1
    · rw [h2 k k1 k2, ← hJ2, mm_up_ne k2, mm_up_ne k1]
    · obtain ⟨y1, y2⟩ := h3 x (by omega)
      rw [y1, y2, ← hJ2, mm_up_ne (by decide), mm_get, if_neg (by omega), mm_get, if_neg (by omega), mm_up_ne (by decide)]; exact ⟨rfl, rfl⟩
    · by_cases e : g = s
      · subst e
        obtain ⟨y1, y2⟩ := h3 (8 * D + g) (by omega)
        rw [y1, y2, ← hJ2, mm_up_ne (by decide), mm_get, if_pos ⟨rfl, rfl, rfl⟩, mm_get, if_pos ⟨rfl, rfl, rfl⟩]; exact ⟨rfl, rfl⟩
      · obtain ⟨y1, y2⟩ := h4 g (by omega) g2
        rw [y1, y2, ← hJ2, mm_up_ne (by decide), mm_up_ne (by decide), mm_up_ne (by decide), mm_up_ne (by decide)]; exact ⟨rfl, rfl⟩
/-- the state stands in row D of what is laid aside -/
def AS (D : Nat) (J J' : mm_T) : Prop := (J' 42 0 (7 * D) = J 9 0 32 ∧ J' 42 0 (7 * D + 1) = J 9 0 33 ∧ J' 42 0 (7 * D + 2) = J 9 0 34 ∧ J' 42 0 (7 * D + 3) = J 9 0 35 ∧ J' 42 0 (7 * D + 4) = J 9 0 36 ∧ J' 42 0 (7 * D + 5) = J 9 0 39 ∧ J' 42 0 (7 * D + 6) = J 9 0 40) ∧ ∀ g, g < 8 → J' 43 0 (8 * D + g) = J 39 0 g ∧ J' 44 0 (8 * D + g) = J 40 0 g
/-- the rows of what is laid aside before row D -/
def AB (D : Nat) (J J' : mm_T) : Prop := (∀ x, x < 7 * D → J' 42 0 x = J 42 0 x) ∧ ∀ x, x < 8 * D → J' 43 0 x = J 43 0 x ∧ J' 44 0 x = J 44 0 x
set_option maxHeartbeats 4000000 in
theorem lays_sim {J : mm_T} {D : Nat} (hD : D < 8) : ∃ J', f_X9_lays fu J (nI D) = some J' ∧ (∀ k, (k < 42 ∨ 44 < k) → J' k = J k) ∧ AS D J J' ∧ AB D J J' := by
  unfold f_X9_lays
  simp only [pz_lt_n, n7]
  have q : ∀ k : Nat, nI (7 * D) + nI k = nI (7 * D + k) := fun k => nI_add _ _
  simp only [show (1 : Int32) = nI 1 from rfl, show (2 : Int32) = nI 2 from rfl, show (3 : Int32) = nI 3 from rfl, show (4 : Int32) = nI 4 from rfl, show (5 : Int32) = nI 5 from rfl, show (6 : Int32) = nI 6 from rfl, q]
  simp only [nI_cl (show 7 * D < 2147483648 by omega), nI_cl (show 7 * D + 1 < 2147483648 by omega), nI_cl (show 7 * D + 2 < 2147483648 by omega), nI_cl (show 7 * D + 3 < 2147483648 by omega), nI_cl (show 7 * D + 4 < 2147483648 by omega), nI_cl (show 7 * D + 5 < 2147483648 by omega), nI_cl (show 7 * D + 6 < 2147483648 by omega), pz_gd_t (nI_ix (show 7 * D < 56 by omega) (show 56 < 2147483648 by decide)), pz_gd_t (nI_ix (show 7 * D + 1 < 56 by omega) (show 56 < 2147483648 by decide)), pz_gd_t (nI_ix (show 7 * D + 2 < 56 by omega) (show 56 < 2147483648 by decide)), pz_gd_t (nI_ix (show 7 * D + 3 < 56 by omega) (show 56 < 2147483648 by decide)), pz_gd_t (nI_ix (show 7 * D + 4 < 56 by omega) (show 56 < 2147483648 by decide)), pz_gd_t (nI_ix (show 7 * D + 5 < 56 by omega) (show 56 < 2147483648 by decide)), pz_gd_t (nI_ix (show 7 * D + 6 < 56 by omega) (show 56 < 2147483648 by decide)), mm_up_ne (show 9 ≠ 42 by decide)]
  generalize hJ1 : mm_up (mm_up (mm_up (mm_up (mm_up (mm_up (mm_up J 42 0 (7 * D) (J 9 0 32)) 42 0 (7 * D + 1) (J 9 0 33)) 42 0 (7 * D + 2) (J 9 0 34)) 42 0 (7 * D + 3) (J 9 0 35)) 42 0 (7 * D + 4) (J 9 0 36)) 42 0 (7 * D + 5) (J 9 0 39)) 42 0 (7 * D + 6) (J 9 0 40) = J1
  have k0 : ∀ k, k ≠ 42 → J1 k = J k := fun k hk => by rw [← hJ1]; simp only [mm_up_ne hk]
  obtain ⟨J', h1, h2, h3, h4⟩ := lay_L (p1 := nI D) hD 8 0 fu J1 (by omega) (by show 8 < 1000; omega)
  have v : ∀ x, J' 42 0 x = if x = 7 * D + 6 then J 9 0 40 else if x = 7 * D + 5 then J 9 0 39 else if x = 7 * D + 4 then J 9 0 36 else if x = 7 * D + 3 then J 9 0 35 else if x = 7 * D + 2 then J 9 0 34 else if x = 7 * D + 1 then J 9 0 33 else if x = 7 * D then J 9 0 32 else J 42 0 x := fun x => by
    rw [h2 42 (by decide) (by decide), ← hJ1]
    simp only [mm_get, true_and]
  refine ⟨J', h1, fun k hk => (h2 k (by omega) (by omega)).trans (k0 k (by omega)), ⟨⟨?_, ?_, ?_, ?_, ?_, ?_, ?_⟩, fun g hg => ?_⟩, fun x hx => ?_, fun x hx => ?_⟩
  · rw [v, if_neg (by omega), if_neg (by omega), if_neg (by omega), if_neg (by omega), if_neg (by omega), if_neg (by omega), if_pos rfl]
  · rw [v, if_neg (by omega), if_neg (by omega), if_neg (by omega), if_neg (by omega), if_neg (by omega), if_pos rfl]
  · rw [v, if_neg (by omega), if_neg (by omega), if_neg (by omega), if_neg (by omega), if_pos rfl]
  · rw [v, if_neg (by omega), if_neg (by omega), if_neg (by omega), if_pos rfl]
  · rw [v, if_neg (by omega), if_neg (by omega), if_pos rfl]
  · rw [v, if_neg (by omega), if_pos rfl]
  · rw [v, if_pos rfl]
  · obtain ⟨y1, y2⟩ := h4 g (Nat.zero_le _) hg
    rw [y1, y2, k0 39 (by decide), k0 40 (by decide)]; exact ⟨rfl, rfl⟩
  · rw [v, if_neg (by omega), if_neg (by omega), if_neg (by omega), if_neg (by omega), if_neg (by omega), if_neg (by omega), if_neg (by omega)]
  · obtain ⟨y1, y2⟩ := h3 x (by omega)
    rw [y1, y2, k0 43 (by decide), k0 44 (by decide)]; exact ⟨rfl, rfl⟩
theorem back_L {p1 : Int32} {D : Nat} (hD : D < 8) : ∀ (d s cnt : Nat) (J : mm_T), s + d = 8 → d < cnt → ∃ J', f_X9_laysBack_L90 fu p1 cnt J (nI D) (nI s) = some J' ∧ (∀ k, k ≠ 39 → k ≠ 40 → J' k = J k) ∧ (∀ g, g < s → J' 39 0 g = J 39 0 g ∧ J' 40 0 g = J 40 0 g) ∧ ∀ g, s ≤ g → g < 8 → J' 39 0 g = J 43 0 (8 * D + g) ∧ J' 40 0 g = J 44 0 (8 * D + g)
  | 0, s, cnt + 1, J, hs, hc => by
    have e1 : (8 : Int32) ≤ nI s := by rw [i32_le, nI_int (by omega), show (8 : Int32).toInt = 8 by decide]; omega
    refine ⟨J, ?_, fun _ _ _ => rfl, fun _ _ => ⟨rfl, rfl⟩, fun g h1 h2 => by omega⟩
    unfold f_X9_laysBack_L90; rw [if_pos e1]
  | d + 1, s, cnt + 1, J, hs, hc => by
    have e1 : ¬ (8 : Int32) ≤ nI s := by rw [i32_le, nI_int (by omega), show (8 : Int32).toInt = 8 by decide]; omega
    generalize hJ2 : mm_up (mm_up J 39 0 s (J 43 0 (8 * D + s))) 40 0 s (J 44 0 (8 * D + s)) = J2
    obtain ⟨J', h1, h2, h3, h4⟩ := back_L (p1 := p1) hD d (s + 1) cnt J2 (by omega) (by omega)
    refine ⟨J', ?_, fun k k1 k2 => ?_, fun g hg => ?_, fun g g1 g2 => ?_⟩
    · unfold f_X9_laysBack_L90; rw [if_neg e1]
      simp only [pz_gd_t (nI_ix (show s < 8 by omega) (show 8 < 2147483648 by decide)), pz_lt_n, nI_cl (show s < 2147483648 by omega), n8, pz_gd_t (nI_ix (show 8 * D + s < 64 by omega) (show 64 < 2147483648 by decide)), nI_cl (show 8 * D + s < 2147483648 by omega), nI_1]
      rw [mm_up_ne (show 44 ≠ 39 by decide), hJ2]
      exact h1
    · rw [h2 k k1 k2, ← hJ2, mm_up_ne k2, mm_up_ne k1]
    · obtain ⟨y1, y2⟩ := h3 g (by omega)
      rw [y1, y2, ← hJ2, mm_up_ne (by decide), mm_get, if_neg (by omega), mm_get, if_neg (by omega), mm_up_ne (by decide)]; exact ⟨rfl, rfl⟩
    · by_cases e : g = s
      · subst e
        obtain ⟨y1, y2⟩ := h3 g (by omega)
        rw [y1, y2, ← hJ2, mm_up_ne (by decide), mm_get, if_pos ⟨rfl, rfl, rfl⟩, mm_get, if_pos ⟨rfl, rfl, rfl⟩]; exact ⟨rfl, rfl⟩
      · obtain ⟨y1, y2⟩ := h4 g (by omega) g2
        rw [y1, y2, ← hJ2, mm_up_ne (by decide), mm_up_ne (by decide), mm_up_ne (by decide), mm_up_ne (by decide)]; exact ⟨rfl, rfl⟩
set_option maxHeartbeats 4000000 in
theorem back_sim {J0 J : mm_T} {D : Nat} (hD : D < 8) (h : AS D J0 J) : ∃ J', f_X9_laysBack fu J (nI D) = some J' ∧ (∀ k, k ≠ 9 → k ≠ 39 → k ≠ 40 → J' k = J k) ∧ (∀ j, (j < 32 ∨ 40 < j) → J' 9 0 j = J 9 0 j) ∧ RJ J0 J' := by
  obtain ⟨⟨a1, a2, a3, a4, a5, a6, a7⟩, aa⟩ := h
  unfold f_X9_laysBack
  simp only [pz_lt_n, n7]
  have q : ∀ k : Nat, nI (7 * D) + nI k = nI (7 * D + k) := fun k => nI_add _ _
  simp only [show (1 : Int32) = nI 1 from rfl, show (2 : Int32) = nI 2 from rfl, show (3 : Int32) = nI 3 from rfl, show (4 : Int32) = nI 4 from rfl, show (5 : Int32) = nI 5 from rfl, show (6 : Int32) = nI 6 from rfl, q]
  simp only [nI_cl (show 7 * D < 2147483648 by omega), nI_cl (show 7 * D + 1 < 2147483648 by omega), nI_cl (show 7 * D + 2 < 2147483648 by omega), nI_cl (show 7 * D + 3 < 2147483648 by omega), nI_cl (show 7 * D + 4 < 2147483648 by omega), nI_cl (show 7 * D + 5 < 2147483648 by omega), nI_cl (show 7 * D + 6 < 2147483648 by omega), pz_gd_t (nI_ix (show 7 * D < 56 by omega) (show 56 < 2147483648 by decide)), pz_gd_t (nI_ix (show 7 * D + 1 < 56 by omega) (show 56 < 2147483648 by decide)), pz_gd_t (nI_ix (show 7 * D + 2 < 56 by omega) (show 56 < 2147483648 by decide)), pz_gd_t (nI_ix (show 7 * D + 3 < 56 by omega) (show 56 < 2147483648 by decide)), pz_gd_t (nI_ix (show 7 * D + 4 < 56 by omega) (show 56 < 2147483648 by decide)), pz_gd_t (nI_ix (show 7 * D + 5 < 56 by omega) (show 56 < 2147483648 by decide)), pz_gd_t (nI_ix (show 7 * D + 6 < 56 by omega) (show 56 < 2147483648 by decide)), mm_up_ne (show 42 ≠ 9 by decide), a1, a2, a3, a4, a5, a6, a7]
  generalize hJ1 : mm_up (mm_up (mm_up (mm_up (mm_up (mm_up (mm_up J 9 0 32 _) 9 0 33 _) 9 0 34 _) 9 0 35 _) 9 0 36 _) 9 0 39 _) 9 0 40 _ = J1
  have k0 : ∀ k, k ≠ 9 → J1 k = J k := fun k hk => by rw [← hJ1]; simp only [mm_up_ne hk]
  obtain ⟨J', h1, h2, h3, h4⟩ := back_L (p1 := nI D) hD 8 0 fu J1 (by omega) (by show 8 < 1000; omega)
  have v : ∀ j, J' 9 0 j = if j = 40 then J0 9 0 40 else if j = 39 then J0 9 0 39 else if j = 36 then J0 9 0 36 else if j = 35 then J0 9 0 35 else if j = 34 then J0 9 0 34 else if j = 33 then J0 9 0 33 else if j = 32 then J0 9 0 32 else J 9 0 j := fun j => by
    rw [h2 9 (by decide) (by decide), ← hJ1]
    simp only [mm_get, true_and]
  refine ⟨J', h1, fun k k1 k2 k3 => (h2 k k2 k3).trans (k0 k k1), fun j hj => ?_, ⟨v 32, v 33, v 34, v 35, v 36, v 39, v 40⟩, fun g hg => ?_⟩
  · rw [v, if_neg (by omega), if_neg (by omega), if_neg (by omega), if_neg (by omega), if_neg (by omega), if_neg (by omega), if_neg (by omega)]
  · obtain ⟨y1, y2⟩ := h4 g (Nat.zero_le _) hg
    obtain ⟨w1, w2⟩ := aa g hg
    rw [y1, y2, k0 43 (by decide), k0 44 (by decide), w1, w2]; exact ⟨rfl, rfl⟩
