/-! ===== the reference's word ===== -/
def lm (w : Nat → Int32) (p q : Nat) (c : Int32) (j : Nat) : Bool := if q ≤ p + j then decide (c = 0) else decide (w (p + j) = c)
theorem lm_r {B Sz t p q j : Nat} {w : Nat → Int32} {I J : mm_T} {c : Int32} (hY : BY B Sz t w I J) (h27 : J 9 0 27 = nI p) (h25 : J 9 0 25 = nI q) (hq : q ≤ B) (hp : p < 200) (hj : j < 10) : f_X9_isLetter fu J (nI j) c = some (b01 (lm w p q c j)) := by
  have hB : B ≤ 160 := by have := hY.1; omega
  unfold f_X9_isLetter lm
  rw [h27, h25, show nI p + nI j = nI (p + j) from nI_add _ _]
  by_cases h : q ≤ p + j
  · rw [if_pos (show nI q ≤ nI (p + j) by rw [i32_le, nI_int (by omega), nI_int (by omega)]; omega), if_pos h]
    by_cases hc : c = 0
    · rw [if_pos hc, decide_eq_true hc]; rfl
    · rw [if_neg hc, decide_eq_false hc]; rfl
  · rw [if_neg (show ¬ nI q ≤ nI (p + j) by rw [i32_le, nI_int (by omega), nI_int (by omega)]; omega), if_neg h, byte_r hY (by omega), pz_bd_s, show bya B Sz w (p + j) = w (p + j) from if_pos (by omega)]
    by_cases hc : w (p + j) = c
    · rw [if_pos hc, decide_eq_true hc]; rfl
    · rw [if_neg hc, decide_eq_false hc]; rfl
theorem bb_step {b : Bool} {x : Bool} {k : Option Int32} (h : k = some (b01 x)) : (pz_bd (some (b01 b)) fun q => if q = 0 then some (0 : Int32) else k) = some (b01 (b && x)) := by
  rw [pz_bd_s]
  cases b with
  | true => rw [if_neg (show ¬ b01 true = 0 by decide), h]; rfl
  | false => rw [if_pos (show b01 false = 0 from rfl)]; rfl
theorem isword_r {B Sz t p q : Nat} {w : Nat → Int32} {I J : mm_T} {c0 c1 c2 c3 c4 c5 c6 c7 : Int32} (hY : BY B Sz t w I J) (h30 : J 9 0 30 = 0) (h26 : J 9 0 26 = 1) (h27 : J 9 0 27 = nI p) (h25 : J 9 0 25 = nI q) (hq : q ≤ B) (hp : p < 200) : f_X9_isWord fu J c0 c1 c2 c3 c4 c5 c6 c7 = some (b01 (decide (q ≤ p + 8) && (lm w p q c0 0 && (lm w p q c1 1 && (lm w p q c2 2 && (lm w p q c3 3 && (lm w p q c4 4 && (lm w p q c5 5 && (lm w p q c6 6 && (lm w p q c7 7 && true)))))))))) := by
  have hB : B ≤ 160 := by have := hY.1; omega
  unfold f_X9_isWord
  rw [if_pos h30, if_pos h26]
  by_cases h : q ≤ p + 8
  · rw [if_neg (show ¬ J 9 0 27 + 8 < J 9 0 25 from by
      rw [h27, h25, show nI p + (8 : Int32) = nI (p + 8) from nI_add p 8, i32_lt, nI_int (by omega), nI_int (by omega)]; omega), decide_eq_true h, Bool.true_and]
    rw [show f_X9_isLetter fu J 0 c0 = _ from lm_r hY h27 h25 hq hp (j := 0) (by omega), show f_X9_isLetter fu J 1 c1 = _ from lm_r hY h27 h25 hq hp (j := 1) (by omega), show f_X9_isLetter fu J 2 c2 = _ from lm_r hY h27 h25 hq hp (j := 2) (by omega), show f_X9_isLetter fu J 3 c3 = _ from lm_r hY h27 h25 hq hp (j := 3) (by omega), show f_X9_isLetter fu J 4 c4 = _ from lm_r hY h27 h25 hq hp (j := 4) (by omega), show f_X9_isLetter fu J 5 c5 = _ from lm_r hY h27 h25 hq hp (j := 5) (by omega), show f_X9_isLetter fu J 6 c6 = _ from lm_r hY h27 h25 hq hp (j := 6) (by omega), show f_X9_isLetter fu J 7 c7 = _ from lm_r hY h27 h25 hq hp (j := 7) (by omega)]
    exact bb_step (bb_step (bb_step (bb_step (bb_step (bb_step (bb_step (bb_step rfl)))))))
  · rw [if_pos (show J 9 0 27 + 8 < J 9 0 25 from by
      rw [h27, h25, show nI p + (8 : Int32) = nI (p + 8) from nI_add p 8, i32_lt, nI_int (by omega), nI_int (by omega)]; omega), decide_eq_false h]; rfl
def l8 (k j : Nat) : Int32 := nI ((wd k).getD j 0)
theorem wd_zero : ∀ k, k < 13 → ∀ j, j < 9 → (wd k).length ≤ j → (wd k).getD j 0 = 0 := by decide +kernel
theorem isw_lm {w : Nat → Int32} {p q k : Nat} (hk : k < 13) (hk1 : 1 ≤ k) (hpq : p < q) (hl : ∀ x, p ≤ x → x < q → isl (w x) = true) : (decide (q ≤ p + 8) && (lm w p q (l8 k 0) 0 && (lm w p q (l8 k 1) 1 && (lm w p q (l8 k 2) 2 && (lm w p q (l8 k 3) 3 && (lm w p q (l8 k 4) 4 && (lm w p q (l8 k 5) 5 && (lm w p q (l8 k 6) 6 && (lm w p q (l8 k 7) 7 && true))))))))) = isw w p q k := by
  obtain ⟨_, h6, h2⟩ := jdk_len k hk hk1
  rw [Bool.eq_iff_iff, isw_iff]
  simp only [Bool.and_eq_true, decide_eq_true_eq, and_true]
  have hz : ∀ j, j < 9 → (l8 k j = 0 ↔ (wd k).length ≤ j) := fun j hj => by
    constructor
    · intro e
      by_cases c : (wd k).length ≤ j
      · exact c
      · exfalso
        obtain ⟨_, g2, g3⟩ := jdk_chr k hk hk1 j (by omega)
        have := (nI_eqM (M := 0) (by omega) (by omega)).mp e
        omega
    · intro h; unfold l8; rw [wd_zero k hk j hj h]; rfl
  have hnz : ∀ x, p ≤ x → x < q → ¬ w x = 0 := fun x y1 y2 e => by
    have := hl x y1 y2
    rw [e] at this
    exact absurd this (by decide)
  have hlm : ∀ j, lm w p q (l8 k j) j = true ↔ (if q ≤ p + j then l8 k j = 0 else w (p + j) = l8 k j) := fun j => by
    unfold lm
    by_cases c : q ≤ p + j
    · rw [if_pos c, if_pos c, decide_eq_true_eq]
    · rw [if_neg c, if_neg c, decide_eq_true_eq]
  constructor
  · rintro ⟨a, b0, b1, b2, b3, b4, b5, b6, b7⟩
    have all : ∀ j, j < 8 → lm w p q (l8 k j) j = true := fun j hj => by
      rcases (by omega : j = 0 ∨ j = 1 ∨ j = 2 ∨ j = 3 ∨ j = 4 ∨ j = 5 ∨ j = 6 ∨ j = 7) with e | e | e | e | e | e | e | e <;> subst e <;> assumption
    have hq : q = p + (wd k).length := by
      rcases Nat.lt_trichotomy q (p + (wd k).length) with c | c | c
      · exfalso
        have h := (hlm (q - p)).mp (all (q - p) (by omega))
        rw [if_pos (by omega)] at h
        have := (hz (q - p) (by omega)).mp h
        omega
      · exact c
      · exfalso
        have h := (hlm (wd k).length).mp (all (wd k).length (by omega))
        rw [if_neg (by omega), (hz (wd k).length (by omega)).mpr (Nat.le_refl _)] at h
        exact hnz (p + (wd k).length) (by omega) c h
    refine ⟨hq, fun j hj => ?_⟩
    have h := (hlm j).mp (all j (by omega))
    rw [if_neg (by omega)] at h
    exact h
  · rintro ⟨hq, hw⟩
    have all : ∀ j, j < 8 → lm w p q (l8 k j) j = true := fun j hj => by
      rw [hlm]
      by_cases c : q ≤ p + j
      · rw [if_pos c]; exact (hz j (by omega)).mpr (by omega)
      · rw [if_neg c]; exact hw j (by omega)
    exact ⟨by omega, all 0 (by omega), all 1 (by omega), all 2 (by omega), all 3 (by omega), all 4 (by omega), all 5 (by omega), all 6 (by omega), all 7 (by omega)⟩
