/-! ===== an evening on both sides ===== -/
theorem mr_get {I : mm_T} {k i : Nat} {f : Nat → Int32} (a b c : Nat) : mm_row I k i f a b c = if a = k ∧ b = i then f c else I a b c := by
  by_cases ha : a = k
  · subst ha
    by_cases hb : b = i
    · subst hb; rw [mm_row_at, if_pos ⟨rfl, rfl⟩]
    · rw [mm_row_ni hb, if_neg (fun h => hb h.2)]
  · rw [mm_row_ne ha, if_neg (fun h => ha h.1)]
def nm (a b c d e f : Int32) : Nat → Int32 := fun j => if j = 0 then a else if j = 1 then b else if j = 2 then c else if j = 3 then d else if j = 4 then e else f
def wi (part : Nat) (x : Int32) : Int32 := if part = 0 then (if -99 ≤ x then (if x ≤ 99 then x else 99) else -99) else if part = 1 then (if 0 ≤ x then (if x ≤ 99 then x else 99) else 0) else x
theorem x8_within0 {N : Nat} {x : Int32} : f_X8_within N x (-99 : Int32) (99 : Int32) = some (wi 0 x) := by
  unfold f_X8_within wi
  rw [if_pos (rfl : (0:Nat) = 0)]
  simp only [i32_lt, i32_le, show (-99 : Int32).toInt = -99 by decide, show (99 : Int32).toInt = 99 by decide]
  by_cases h1 : x.toInt < 99
  · rw [if_pos h1]
    by_cases h2 : -99 ≤ x.toInt
    · rw [if_pos h2, if_pos (by omega : x.toInt ≤ 99)]
      by_cases h3 : -99 < x.toInt
      · rw [if_pos h3]
      · rw [if_neg h3, show x = -99 from i32_eq.mpr (by rw [show (-99 : Int32).toInt = -99 by decide]; omega)]
    · rw [if_neg h2, if_neg (by omega)]
  · rw [if_neg h1, if_pos (by rw [show (99 : Int32).toInt = 99 by decide]; omega), if_pos (by omega)]
    by_cases h3 : x.toInt ≤ 99
    · rw [if_pos h3, show x = 99 from i32_eq.mpr (by rw [show (99 : Int32).toInt = 99 by decide]; omega)]
    · rw [if_neg h3]
theorem x8_within1 {N : Nat} {x : Int32} : f_X8_within N x (0 : Int32) (99 : Int32) = some (wi 1 x) := by
  unfold f_X8_within wi
  rw [if_neg (by omega : ¬ (1:Nat) = 0), if_pos (rfl : (1:Nat) = 1)]
  simp only [i32_lt, i32_le, show (0 : Int32).toInt = 0 by decide, show (99 : Int32).toInt = 99 by decide]
  by_cases h1 : x.toInt < 99
  · rw [if_pos h1]
    by_cases h2 : 0 ≤ x.toInt
    · rw [if_pos h2, if_pos (by omega : x.toInt ≤ 99)]
      by_cases h3 : 0 < x.toInt
      · rw [if_pos h3]
      · rw [if_neg h3, show x = 0 from i32_eq.mpr (by rw [show (0 : Int32).toInt = 0 by decide]; omega)]
    · rw [if_neg h2, if_neg (by omega)]
  · rw [if_neg h1, if_pos (by rw [show (99 : Int32).toInt = 99 by decide]; omega), if_pos (by omega)]
    by_cases h3 : x.toInt ≤ 99
    · rw [if_pos h3, show x = 99 from i32_eq.mpr (by rw [show (99 : Int32).toInt = 99 by decide]; omega)]
    · rw [if_neg h3]
theorem x9_within0 {N : Nat} {x : Int32} : f_X9_within N x (-99 : Int32) (99 : Int32) = some (wi 0 x) := by
  unfold f_X9_within wi
  rw [if_pos (rfl : (0:Nat) = 0)]
  by_cases h1 : -99 ≤ x
  · rw [if_pos h1, if_pos h1]; by_cases h2 : x ≤ 99
    · rw [if_pos h2, if_pos h2]
    · rw [if_neg h2, if_neg h2]
  · rw [if_neg h1, if_neg h1]
theorem x9_within1 {N : Nat} {x : Int32} : f_X9_within N x (0 : Int32) (99 : Int32) = some (wi 1 x) := by
  unfold f_X9_within wi
  rw [if_neg (by omega : ¬ (1:Nat) = 0), if_pos (rfl : (1:Nat) = 1)]
  by_cases h1 : 0 ≤ x
  · rw [if_pos h1, if_pos h1]; by_cases h2 : x ≤ 99
    · rw [if_pos h2, if_pos h2]
    · rw [if_neg h2, if_neg h2]
  · rw [if_neg h1, if_neg h1]
def EA (P S : Nat) (I J : mm_T) : Prop := (P ≤ 8 ∧ S ≤ 7 ∧ I 1 0 2 = nI P ∧ J 9 0 9 = nI P ∧ I 1 0 3 = nI S ∧ J 9 0 14 = nI S) ∧ (I 1 0 4 = J 9 0 15 ∧ I 1 0 5 = J 9 0 16) ∧ (∀ p, p < P → I 2 p 0 = J 33 0 p ∧ I 2 p 1 = J 34 0 p ∧ ∃ g, g < 8 ∧ J 34 0 p = nI g) ∧ ∀ s, s < S → I 6 s 0 = J 35 0 s ∧ I 6 s 1 = J 36 0 s ∧ I 6 s 2 = J 37 0 s ∧ I 6 s 3 = J 38 0 s ∧ ∃ w, w < P ∧ J 38 0 s = nI w ∧ ∃ l, l < 10 ∧ J 37 0 s = nI l
def ET (r n : Nat) (sy : Nat → (Nat → Int32) → Int32) (I J : mm_T) : Prop := 3 * r + 144 ≤ n ∧ r < 6 ∧ J 9 0 4 = nI r ∧ TX r (I 7 r) (I 28 r) (J 30 0) (J 31 0) sy
def ES (r P S a cl th ss i : Nat) (I J : mm_T) : Prop := (I 0 i 1 = nI r ∧ I 0 i 10 = J 9 0 32 ∧ I 0 i 11 = J 9 0 33 ∧ I 0 i 12 = J 9 0 34 ∧ I 0 i 14 = J 9 0 36) ∧ (I 0 i 15 = nI th ∧ J 9 0 35 = nI th ∧ th < 2 ^ P ∧ I 0 i 13 = nI (P - pc th)) ∧ (I 0 i 9 = nI (cl ||| bu a) ∧ J 9 0 39 = nI cl ∧ I 0 i 7 = nI (pc cl) ∧ cl < 2 ^ S ∧ a < 8) ∧ (J 9 0 40 = nI ss ∧ ss < 128 ∧ ∀ s, s < 7 → i = 0 → I 15 i s = if tb ss s = true then J 41 0 s else -1) ∧ ∀ g, g < 8 → I 11 i g = J 39 0 g ∧ I 12 i g = J 40 0 g
def EF (i : Nat) (I I' : mm_T) : Prop := (∀ k, k ≠ 0 → (k < 10 ∨ 15 < k) → k ≠ 29 → I' k = I k) ∧ ∀ k j, j ≠ i → k ≠ 29 → I' k j = I k j
/-- a text has been asked -/
def EQ (i : Nat) (I I' : mm_T) : Prop := (∀ k, k ≠ 10 → k ≠ 29 → I' k = I k) ∧ ∀ j, j ≠ i → I' 10 j = I 10 j
def RS (J J' : mm_T) : Prop := (∀ k, k ≠ 9 → J' k = J k) ∧ ∀ j, (j < 17 ∨ 31 < j) → J' 9 0 j = J 9 0 j
def RG (J J' : mm_T) : Prop := (∀ k, k ≠ 9 → (k < 39 ∨ 41 < k) → J' k = J k) ∧ ∀ j, (j < 17 ∨ 40 < j) → J' 9 0 j = J 9 0 j
theorem EF.refl {i : Nat} {I : mm_T} : EF i I I := ⟨fun _ _ _ _ => rfl, fun _ _ _ _ => rfl⟩
theorem EF.trans {i : Nat} {A B C : mm_T} (h : EF i A B) (g : EF i B C) : EF i A C := ⟨fun k a b c => (g.1 k a b c).trans (h.1 k a b c), fun k j a b => (g.2 k j a b).trans (h.2 k j a b)⟩
theorem EQ.refl {i : Nat} {I : mm_T} : EQ i I I := ⟨fun _ _ _ => rfl, fun _ _ => rfl⟩
theorem EQ.trans {i : Nat} {A B C : mm_T} (h : EQ i A B) (g : EQ i B C) : EQ i A C := ⟨fun k a b => (g.1 k a b).trans (h.1 k a b), fun j a => (g.2 j a).trans (h.2 j a)⟩
theorem EQ.toF {i : Nat} {A B : mm_T} (h : EQ i A B) : EF i A B := by
  refine ⟨fun k h0 h1 h2 => h.1 k (by omega) h2, fun k j h0 h1 => ?_⟩
  by_cases hk : k = 10
  · subst hk; exact h.2 j h0
  · rw [h.1 k hk h1]
theorem RS.refl {J : mm_T} : RS J J := ⟨fun _ _ => rfl, fun _ _ => rfl⟩
theorem RS.trans {A B C : mm_T} (h : RS A B) (g : RS B C) : RS A C := ⟨fun k a => (g.1 k a).trans (h.1 k a), fun j a => (g.2 j a).trans (h.2 j a)⟩
theorem RS.toG {A B : mm_T} (h : RS A B) : RG A B := ⟨fun k a _ => h.1 k a, fun j a => h.2 j (by omega)⟩
theorem RG.refl {J : mm_T} : RG J J := ⟨fun _ _ _ => rfl, fun _ _ => rfl⟩
theorem RG.trans {A B C : mm_T} (h : RG A B) (g : RG B C) : RG A C := ⟨fun k a b => (g.1 k a b).trans (h.1 k a b), fun j a => (g.2 j a).trans (h.2 j a)⟩
theorem EA.to {P S : Nat} {I J I' J' : mm_T} (h : EA P S I J) (i1 : I' 1 = I 1) (i2 : I' 2 = I 2) (i6 : I' 6 = I 6) (h9 : ∀ j, j < 17 → J' 9 0 j = J 9 0 j) (hk : ∀ k, 33 ≤ k → k < 39 → J' k = J k) : EA P S I' J' := by
  unfold EA
  rw [i1, i2, i6, h9 9 (by omega), h9 14 (by omega), h9 15 (by omega), h9 16 (by omega), hk 33 (by omega) (by omega), hk 34 (by omega) (by omega), hk 35 (by omega) (by omega), hk 36 (by omega) (by omega), hk 37 (by omega) (by omega), hk 38 (by omega) (by omega)]
  exact h
theorem ET.to {r n : Nat} {sy : Nat → (Nat → Int32) → Int32} {I J I' J' : mm_T} (h : ET r n sy I J) (i7 : I' 7 = I 7) (i28 : I' 28 = I 28) (h9 : ∀ j, j < 17 → J' 9 0 j = J 9 0 j) (j30 : J' 30 = J 30) (j31 : J' 31 = J 31) : ET r n sy I' J' := by
  unfold ET
  rw [i7, i28, h9 4 (by omega), j30, j31]; exact h
theorem EA.ev {P S i : Nat} {I J I' J' : mm_T} (h : EA P S I J) (hi : EF i I I') (hj : RG J J') : EA P S I' J' := h.to (hi.1 1 (by decide) (by decide) (by decide)) (hi.1 2 (by decide) (by decide) (by decide)) (hi.1 6 (by decide) (by decide) (by decide)) (fun j q => hj.2 j (by omega)) (fun k q q2 => hj.1 k (by omega) (by omega))
theorem ET.ev {r n i : Nat} {sy : Nat → (Nat → Int32) → Int32} {I J I' J' : mm_T} (h : ET r n sy I J) (hi : EF i I I') (hj : RG J J') : ET r n sy I' J' := h.to (hi.1 7 (by decide) (by decide) (by decide)) (hi.1 28 (by decide) (by decide) (by decide)) (fun j q => hj.2 j (by omega)) (hj.1 30 (by decide) (by decide)) (hj.1 31 (by decide) (by decide))
theorem ES.ask {r P S a cl th ss i : Nat} {I J I' J' : mm_T} (h : ES r P S a cl th ss i I J) (hi : EQ i I I') (hj : RS J J') : ES r P S a cl th ss i I' J' := by
  unfold ES
  rw [hi.1 0 (by decide) (by decide), hi.1 15 (by decide) (by decide), hi.1 11 (by decide) (by decide), hi.1 12 (by decide) (by decide), hj.1 39 (by decide), hj.1 40 (by decide), hj.1 41 (by decide), hj.2 32 (by omega), hj.2 33 (by omega), hj.2 34 (by omega), hj.2 35 (by omega), hj.2 36 (by omega), hj.2 39 (by omega), hj.2 40 (by omega)]
  exact h
/-- the class asks a text -/
theorem say_c {r n i part : Nat} {sy : Nat → (Nat → Int32) → Int32} {I J : mm_T} (T : ET r n sy I J) (h1 : I 0 i 1 = nI r) (h10 : I 0 i 10 = J 9 0 32) (h11 : I 0 i 11 = J 9 0 33) (h12 : I 0 i 12 = J 9 0 34) (hp : part < 3) (a b c : Int32) : ∃ q f, f_X0_nameAll fu n I i a b c = some q ∧ q 0 = I 0 ∧ q 2 = I 2 ∧ q 1 = I 1 ∧ f_X7_worth fu n q (nI r) (nI part) i = some (mm_row q 29 r f, sy part (nm (J 9 0 32) a b c (J 9 0 34) (J 9 0 33))) ∧ EQ i I q ∧ EQ i I (mm_row q 29 r f) := by
  obtain ⟨t1, t2, t3, t4, t5, t6⟩ := T
  unfold f_X0_nameAll
  simp only [pz_lt_d]
  generalize hz : (mm_up (mm_up (mm_up (mm_up (mm_up (mm_up I 10 i (0 : Int32).toNatClampNeg (I 0 i 10)) 10 i (1 : Int32).toNatClampNeg a) 10 i (2 : Int32).toNatClampNeg b) 10 i (3 : Int32).toNatClampNeg c) 10 i (4 : Int32).toNatClampNeg _) 10 i (5 : Int32).toNatClampNeg _) = q
  have e0 : ∀ k, k ≠ 10 → q k = I k := fun k hk => by
    rw [← hz]; simp only [mm_up_ne hk]
  refine ⟨q, ?_⟩
  obtain ⟨f, hf⟩ := t4 n q i part hp (by rw [e0 7 (by decide)]) (by rw [e0 28 (by decide)])
  have eN : sy part (q 10 i) = sy part (nm (J 9 0 32) a b c (J 9 0 34) (J 9 0 33)) := by
    refine t6 part _ _ fun j hj => ?_
    rw [← hz]
    simp only [mm_get, show (0 : Int32).toNatClampNeg = 0 by decide, show (1 : Int32).toNatClampNeg = 1 by decide, show (2 : Int32).toNatClampNeg = 2 by decide, show (3 : Int32).toNatClampNeg = 3 by decide, show (4 : Int32).toNatClampNeg = 4 by decide, show (5 : Int32).toNatClampNeg = 5 by decide, true_and, show ¬ (0 : Nat) = 10 by decide, false_and, if_false]
    rw [h10, h11, h12]
    unfold nm
    rcases (by omega : j = 0 ∨ j = 1 ∨ j = 2 ∨ j = 3 ∨ j = 4 ∨ j = 5) with h | h | h | h | h | h <;> subst h <;> rfl
  have eQ : EQ i I q := ⟨fun k hk _ => e0 k hk, fun j hj => by rw [← hz]; simp only [mm_up_ni hj]⟩
  refine ⟨f, rfl, e0 0 (by decide), e0 2 (by decide), e0 1 (by decide), by rw [hf, eN], eQ, eQ.trans ⟨fun k _ hk => mm_row_ne hk, fun j _ => by rw [mm_row_ne (by decide)]⟩⟩
/-- the reference asks a text -/
theorem say_r {r n part : Nat} {sy : Nat → (Nat → Int32) → Int32} {I J : mm_T} (T : ET r n sy I J) (hp : part < 3) (a b c : Int32) : ∃ J', f_X9_says fu J (nI part) a b c = some (J', wi part (sy part (nm (J 9 0 32) a b c (J 9 0 34) (J 9 0 33)))) ∧ RS J J' := by
  obtain ⟨t1, t2, t3, t4, t5, t6⟩ := T
  unfold f_X9_says
  simp only [pz_lt_d]
  generalize hz : (mm_up (mm_up (mm_up (mm_up (mm_up (mm_up J 9 0 17 (J 9 0 32)) 9 0 18 a) 9 0 19 b) 9 0 20 c) 9 0 21 _) 9 0 22 _) = q
  have e0 : ∀ k, k ≠ 9 → q k = J k := fun k hk => by
    rw [← hz]; simp only [mm_up_ne hk]
  have e9 : ∀ j, (j < 17 ∨ 22 < j) → q 9 0 j = J 9 0 j := fun j hj => by
    rw [← hz]; simp only [mm_get, true_and]
    rw [if_neg (by omega), if_neg (by omega), if_neg (by omega), if_neg (by omega), if_neg (by omega), if_neg (by omega)]
  obtain ⟨J', h1, h2, h3⟩ := t5 q part hp (by rw [e0 31 (by decide)]) (fun j _ => by rw [e0 30 (by decide)])
  have eN : sy part (fun j => q 9 0 (17 + j)) = sy part (nm (J 9 0 32) a b c (J 9 0 34) (J 9 0 33)) := by
    refine t6 part _ _ fun j hj => ?_
    rw [← hz]
    simp only [mm_get, true_and]
    unfold nm
    rcases (by omega : j = 0 ∨ j = 1 ∨ j = 2 ∨ j = 3 ∨ j = 4 ∨ j = 5) with h | h | h | h | h | h <;> subst h <;> rfl
  rw [e9 4 (by omega), t3, h1, eN, pz_bd_s]
  refine ⟨J', ?_, fun k hk => (h2 k hk).trans (e0 k hk), fun j hj => (h3 j (by omega)).trans (e9 j (by omega))⟩
  dsimp only
  rcases (by omega : part = 0 ∨ part = 1 ∨ part = 2) with h | h | h
  · subst h; rw [if_pos (by decide), x9_within0, pz_bd_s]
  · subst h; rw [if_neg (by decide), if_pos (by decide), x9_within1, pz_bd_s]
  · subst h; rw [if_neg (by decide), if_neg (by decide)]; unfold wi; rw [if_neg (by decide), if_neg (by decide)]
