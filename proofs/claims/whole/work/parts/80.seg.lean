/-! ===== code that a text becomes ===== -/
/-- what a joining sign makes of two values -/
def jo (op : Int32) (x y : Int32) : Int32 := if op = 42 then x * y else if op = 43 then x + y else if op = 45 then x - y else if op = 60 then (if y ≤ x then 0 else 1) else if op = 61 then (if x = y then 1 else 0) else if op = 111 then (if x = 0 then 0 else (if y = 0 then 0 else 1)) else (if x = 0 then (if y = 0 then 0 else 1) else 1)
theorem jo_eq {N : Nat} {op x y : Int32} : f_X7_joined N op x y = some (jo op x y) := by
  unfold f_X7_joined jo
  simp only [pz_lt_n]
  by_cases h1 : op = 42
  · rw [if_pos h1, if_pos h1]
  rw [if_neg h1, if_neg h1]
  by_cases h2 : op = 43
  · rw [if_pos h2, if_pos h2]
  rw [if_neg h2, if_neg h2]
  by_cases h3 : op = 45
  · rw [if_pos h3, if_pos h3]
  rw [if_neg h3, if_neg h3]
  by_cases h4 : op = 60
  · rw [if_pos h4, if_pos h4]
    by_cases h : y ≤ x
    · rw [if_pos h, if_pos h]
    · rw [if_neg h, if_neg h]
  rw [if_neg h4, if_neg h4]
  by_cases h5 : op = 61
  · rw [if_pos h5, if_pos h5]
    by_cases h : x = y
    · rw [if_pos h, if_pos h]
    · rw [if_neg h, if_neg h]
  rw [if_neg h5, if_neg h5]
  by_cases h6 : op = 111
  · rw [if_pos h6, if_pos h6]
    by_cases h : x = 0
    · rw [if_pos h, if_pos h]
    · rw [if_neg h, if_neg h]
      by_cases g : y = 0
      · rw [if_pos g, if_pos g]
      · rw [if_neg g, if_neg g]
  rw [if_neg h6, if_neg h6]
  by_cases h : x = 0
  · rw [if_pos h, if_pos h]
    by_cases g : y = 0
    · rw [if_pos g, if_pos g]
    · rw [if_neg g, if_neg g]
  · rw [if_neg h, if_neg h]
/-- the joining signs -/
def isop (op : Int32) : Bool := decide (op = 42) || decide (op = 43) || decide (op = 45) || decide (op = 60) || decide (op = 61) || decide (op = 111) || decide (op = 110)
/-- code from lo to hi leaves v on the stack and wants m places of it: the least such -/
def SEG (c a : Nat → Int32) (lo hi : Nat) (v : Int32) (m : Nat) : Prop := ∀ (P : Nat → Nat → Int32 → Nat → Prop),
  (∀ (lo m : Nat), 0 ≤ c lo → 1 ≤ m → P lo (lo + 1) (c lo) m) →
  (∀ (lo j m : Nat), j < 6 → c lo = -nI (101 + j) → 1 ≤ m → P lo (lo + 1) (a j) m) →
  (∀ (lo hi m : Nat) (v : Int32), P lo hi v m → c hi = -4 → P lo (hi + 1) (-v) m) →
  (∀ (lo hi m : Nat) (v : Int32), P lo hi v m → c hi = -112 → P lo (hi + 1) (if v = 0 then 1 else 0) m) →
  (∀ (lo mid hi m1 m2 : Nat) (x y op : Int32), P lo mid x m1 → P mid hi y m2 → m1 ≤ m2 + 1 → isop op = true → c hi = -op → P lo (hi + 1) (jo op x y) (m2 + 1)) → P lo hi v m
theorem SEG.num {c a : Nat → Int32} {lo m : Nat} (h : 0 ≤ c lo) (hm : 1 ≤ m) : SEG c a lo (lo + 1) (c lo) m := fun _ h1 _ _ _ _ => h1 lo m h hm
theorem SEG.name {c a : Nat → Int32} {lo j m : Nat} (hj : j < 6) (h : c lo = -nI (101 + j)) (hm : 1 ≤ m) : SEG c a lo (lo + 1) (a j) m := fun _ _ h2 _ _ _ => h2 lo j m hj h hm
theorem SEG.neg {c a : Nat → Int32} {lo hi m : Nat} {v : Int32} (s : SEG c a lo hi v m) (h : c hi = -4) : SEG c a lo (hi + 1) (-v) m := fun P h1 h2 h3 h4 h5 => h3 lo hi m v (s P h1 h2 h3 h4 h5) h
theorem SEG.not {c a : Nat → Int32} {lo hi m : Nat} {v : Int32} (s : SEG c a lo hi v m) (h : c hi = -112) : SEG c a lo (hi + 1) (if v = 0 then 1 else 0) m := fun P h1 h2 h3 h4 h5 => h4 lo hi m v (s P h1 h2 h3 h4 h5) h
theorem SEG.bin {c a : Nat → Int32} {lo mid hi m1 m2 : Nat} {x y op : Int32} (s1 : SEG c a lo mid x m1) (s2 : SEG c a mid hi y m2) (h1 : m1 ≤ m2 + 1) (ho : isop op = true) (h : c hi = -op) : SEG c a lo (hi + 1) (jo op x y) (m2 + 1) := fun P g1 g2 g3 g4 g5 => g5 lo mid hi m1 m2 x y op (s1 P g1 g2 g3 g4 g5) (s2 P g1 g2 g3 g4 g5) h1 ho h
theorem SEG.ind {c a : Nat → Int32} {P : (lo hi : Nat) → (v : Int32) → (m : Nat) → SEG c a lo hi v m → Prop}
  (num : ∀ {lo m : Nat} (h : 0 ≤ c lo) (hm : 1 ≤ m), P lo (lo + 1) (c lo) m (SEG.num h hm))
  (name : ∀ {lo j m : Nat} (hj : j < 6) (h : c lo = -nI (101 + j)) (hm : 1 ≤ m), P lo (lo + 1) (a j) m (SEG.name hj h hm))
  (neg : ∀ {lo hi m : Nat} {v : Int32} (s : SEG c a lo hi v m) (h : c hi = -4), P lo hi v m s → P lo (hi + 1) (-v) m (SEG.neg s h))
  (not : ∀ {lo hi m : Nat} {v : Int32} (s : SEG c a lo hi v m) (h : c hi = -112), P lo hi v m s → P lo (hi + 1) (if v = 0 then 1 else 0) m (SEG.not s h))
  (bin : ∀ {lo mid hi m1 m2 : Nat} {x y op : Int32} (s1 : SEG c a lo mid x m1) (s2 : SEG c a mid hi y m2) (h1 : m1 ≤ m2 + 1) (ho : isop op = true) (h : c hi = -op), P lo mid x m1 s1 → P mid hi y m2 s2 → P lo (hi + 1) (jo op x y) (m2 + 1) (SEG.bin s1 s2 h1 ho h))
  {lo hi : Nat} {v : Int32} {m : Nat} (s : SEG c a lo hi v m) : P lo hi v m s := by
  have key := s (fun lo hi v m => ∃ q : SEG c a lo hi v m, P lo hi v m q)
    (fun _ _ h hm => ⟨_, num h hm⟩) (fun _ _ _ hj h hm => ⟨_, name hj h hm⟩)
    (fun _ _ _ _ q h => ⟨_, neg q.1 h q.2⟩) (fun _ _ _ _ q h => ⟨_, not q.1 h q.2⟩)
    (fun _ _ _ _ _ _ _ _ q1 q2 h1 ho h => ⟨_, bin q1.1 q2.1 h1 ho h q1.2 q2.2⟩)
  obtain ⟨q, h⟩ := key
  exact h
theorem SEG.mono {c a : Nat → Int32} {lo hi m : Nat} {v : Int32} (s : SEG c a lo hi v m) : ∀ {m'}, m ≤ m' → SEG c a lo hi v m' := by
  induction s using SEG.ind with
  | num h hm => intro m' h2; exact .num h (by omega)
  | name hj h hm => intro m' h2; exact .name hj h (by omega)
  | neg s h ih => intro m' h2; exact .neg (ih h2) h
  | not s h ih => intro m' h2; exact .not (ih h2) h
  | bin s1 s2 h1 ho h ih1 ih2 =>
    intro m' h2
    obtain ⟨k, rfl⟩ : ∃ k, m' = k + 1 := ⟨m' - 1, by omega⟩
    exact .bin s1 (ih2 (by omega)) (by omega) ho h
theorem SEG.pos {c a : Nat → Int32} {lo hi m : Nat} {v : Int32} (s : SEG c a lo hi v m) : lo < hi ∧ 1 ≤ m := by
  induction s using SEG.ind with
  | num h hm => exact ⟨by omega, hm⟩
  | name hj h hm => exact ⟨by omega, hm⟩
  | neg s h ih => exact ⟨by omega, ih.2⟩
  | not s h ih => exact ⟨by omega, ih.2⟩
  | bin s1 s2 h1 ho h ih1 ih2 => exact ⟨by omega, by omega⟩
/-- only the six names count, and the code before hi -/
theorem SEG.cong {c c' a a' : Nat → Int32} {lo hi m : Nat} {v : Int32} (s : SEG c a lo hi v m) (ha : ∀ j, j < 6 → a' j = a j) : (∀ j, j < hi → c' j = c j) → SEG c' a' lo hi v m := by
  induction s using SEG.ind with
  | num h hm => intro hc; rename_i lo m; rw [← hc lo (by omega)]; exact .num (by rw [hc lo (by omega)]; exact h) hm
  | name hj h hm => intro hc; rename_i lo j m; rw [← ha j hj]; exact .name hj (by rw [hc lo (by omega)]; exact h) hm
  | neg s h ih => intro hc; exact .neg (ih fun j hj => hc j (by omega)) (by rw [hc _ (by omega)]; exact h)
  | not s h ih => intro hc; exact .not (ih fun j hj => hc j (by omega)) (by rw [hc _ (by omega)]; exact h)
  | bin s1 s2 h1 ho h ih1 ih2 =>
    intro hc
    have := s2.pos
    exact .bin (ih1 fun j hj => hc j (by omega)) (ih2 fun j hj => hc j (by omega)) h1 ho (by rw [hc _ (by omega)]; exact h)
