/-! ===== tokens ===== -/
def wds : List (List Nat) := [[109,105,110,117,116,101], [119,97,105,116,101,100], [115,117,110,103], [115,111,114,116], [98,97,114], [109,111,111,100], [98,101,97,114,115], [116,97,107,101,115], [102,105,114,115,116], [111,114], [97,110,100], [110,111,116]]
def wd (k : Nat) : List Nat := wds.getD (k - 1) []
theorem jdk_len : ∀ k, k < 13 → 1 ≤ k → f_J0_length_8abf5 fu k = some (nI (wd k).length) ∧ (wd k).length ≤ 6 ∧ 2 ≤ (wd k).length := by decide +kernel
set_option maxRecDepth 100000 in
theorem jdk_chr : ∀ k, k < 13 → 1 ≤ k → ∀ j, j < (wd k).length → f_J0_charAt_5068e fu k (nI j) = some (nI ((wd k).getD j 0)) ∧ 97 ≤ (wd k).getD j 0 ∧ (wd k).getD j 0 ≤ 122 := by decide +kernel
def sgs : List Nat := [40, 41, 59, 43, 45, 42, 60, 61]
set_option maxRecDepth 100000 in
theorem jdk_ix : ∀ v, v < 256 → (f_J0_indexOf_0f7a4 fu 13 (((nI v).toUInt32 % 65536).toInt32)).any (fun r => decide (r < 0) == !(sgs.contains v)) = true := by decide +kernel
/-- the letters from p to q are word k -/
def isw (w : Nat → Int32) (p q k : Nat) : Bool := decide (q = p + (wd k).length) && (List.range (wd k).length).all fun j => decide (w (p + j) = nI ((wd k).getD j 0))
theorem isw_iff {w : Nat → Int32} {p q k : Nat} : isw w p q k = true ↔ q = p + (wd k).length ∧ ∀ j, j < (wd k).length → w (p + j) = nI ((wd k).getD j 0) := by
  unfold isw
  rw [Bool.and_eq_true, decide_eq_true_eq, List.all_eq_true]
  constructor
  · exact fun h => ⟨h.1, fun j hj => of_decide_eq_true (h.2 j (List.mem_range.mpr hj))⟩
  · exact fun h => ⟨h.1, fun j hj => decide_eq_true (h.2 j (List.mem_range.mp hj))⟩
theorem spell_L {n k p B : Nat} {I : mm_T} {w : Nat → Int32} (hk : k < 13) (hk1 : 1 ≤ k) (hp : I 3 0 8 = nI p) (hB : B ≤ 160) (hpB : p + (wd k).length ≤ B) (hw : ∀ j, j < B → I 18 0 j = w j) : ∀ (d j cnt : Nat), j + d = (wd k).length → d < cnt → ∃ b : Bool, f_X3_spells_L20 fu n I k cnt (nI j) = some (b01 b) ∧ (b = true ↔ ∀ x, j ≤ x → x < (wd k).length → w (p + x) = nI ((wd k).getD x 0))
  | 0, j, cnt + 1, hj, hc => by
    obtain ⟨h1, h2, _⟩ := jdk_len k hk hk1
    unfold f_X3_spells_L20
    rw [h1, pz_bd_s, if_pos (by rw [i32_le, nI_int (by omega), nI_int (by omega)]; omega)]
    exact ⟨true, rfl, fun _ x y1 y2 => by omega, fun _ => rfl⟩
  | d + 1, j, cnt + 1, hj, hc => by
    obtain ⟨h1, h2, _⟩ := jdk_len k hk hk1
    obtain ⟨g1, _⟩ := jdk_chr k hk hk1 j (by omega)
    unfold f_X3_spells_L20
    rw [h1, pz_bd_s, if_neg (by rw [i32_le, nI_int (by omega), nI_int (by omega)]; omega), hp, show nI p + nI j = nI (p + j) from nI_add _ _, pz_gd_t (nI_ix (by omega) (by omega)), g1, pz_bd_s, nI_cl (by omega), hw (p + j) (by omega)]
    by_cases he : w (p + j) = nI ((wd k).getD j 0)
    · rw [if_pos he, pz_lt_n, nI_1]
      obtain ⟨b, b1, b2⟩ := spell_L (n := n) hk hk1 hp hB hpB hw d (j + 1) cnt (by omega) (by omega)
      refine ⟨b, b1, fun hb x y1 y2 => ?_, fun h => b2.mpr fun x y1 y2 => h x (by omega) y2⟩
      by_cases e : x = j
      · subst e; exact he
      · exact b2.mp hb x (by omega) y2
    · rw [if_neg he]
      exact ⟨false, rfl, (fun h => by cases h), fun h => absurd (h j (Nat.le_refl _) (by omega)) he⟩
theorem spell_c {n k p q B : Nat} {I : mm_T} {w : Nat → Int32} (hk : k < 13) (hk1 : 1 ≤ k) (hp : I 3 0 8 = nI p) (hq : I 3 0 9 = nI q) (hpq : p ≤ q) (hqB : q ≤ B) (hB : B ≤ 160) (hw : ∀ j, j < B → I 18 0 j = w j) : f_X3_spells fu n I k = some (b01 (isw w p q k)) := by
  obtain ⟨h1, h2, _⟩ := jdk_len k hk hk1
  unfold f_X3_spells
  rw [h1, pz_bd_s, hp, hq, nI_subn hpq]
  by_cases hl : (wd k).length = q - p
  · rw [if_pos (show nI (wd k).length = nI (q - p) by rw [hl])]
    obtain ⟨b, b1, b2⟩ := spell_L (n := n) hk hk1 hp hB (by omega) hw (wd k).length 0 fu (by omega) (by show _ < 1000; omega)
    rw [show f_X3_spells_L20 fu n I k fu 0 = some (b01 b) from b1]
    congr 2
    rw [Bool.eq_iff_iff, b2, isw_iff]
    exact ⟨fun h => ⟨by omega, fun j hj => h j (Nat.zero_le _) hj⟩, fun h x _ hx => h.2 x hx⟩
  · rw [if_neg (fun e => hl ((nI_eqM (by omega) (by omega)).mp e))]
    rw [show isw w p q k = false from by
      rw [Bool.eq_false_iff, ne_eq, isw_iff]; exact fun h => hl (by omega)]
    rfl
/-- the bytes of a text on both sides: the class's tape of B, the reference's Sz with blanks behind -/
def BY (B Sz t : Nat) (w : Nat → Int32) (I J : mm_T) : Prop := (B ≤ Sz ∧ Sz ≤ 160 ∧ t < 6) ∧ (I 3 0 1 = nI B ∧ J 9 0 24 = nI Sz ∧ J 9 0 23 = nI (160 * t)) ∧ (∀ j, j < B → I 18 0 j = w j ∧ J 30 0 (160 * t + j) = w j ∧ ∃ v, v < 256 ∧ w j = nI v) ∧ ∀ j, B ≤ j → j < Sz → J 30 0 (160 * t + j) = 32
/-- the byte at a place, as the reference reads it -/
def bya (B Sz : Nat) (w : Nat → Int32) (p : Nat) : Int32 := if p < B then w p else if p < Sz then 32 else -1
theorem byte_r {B Sz t p : Nat} {w : Nat → Int32} {I J : mm_T} (h : BY B Sz t w I J) (hp : p < 1000) : f_X9_byteAt fu J (nI p) = some (bya B Sz w p) := by
  obtain ⟨⟨h1, h2, h3⟩, ⟨h4, h5, h6⟩, h7, h8⟩ := h
  unfold f_X9_byteAt bya
  rw [h5, h6]
  by_cases c1 : Sz ≤ p
  · rw [if_pos (show nI Sz ≤ nI p by rw [i32_le, nI_int (by omega), nI_int (by omega)]; omega), if_neg (by omega), if_neg (by omega)]
  · rw [if_neg (show ¬ nI Sz ≤ nI p by rw [i32_le, nI_int (by omega), nI_int (by omega)]; omega), show nI (160 * t) + nI p = nI (160 * t + p) from nI_add _ _, pz_gd_t (nI_ix (by omega) (by omega)), nI_cl (by omega)]
    by_cases c2 : p < B
    · rw [if_pos c2, (h7 p c2).2.1]
    · rw [if_neg c2, if_pos (by omega), h8 p (by omega) (by omega)]
