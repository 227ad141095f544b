/-! ===== bits ===== -/
def pc (m : Nat) : Nat := m % 2 + m / 2 % 2 + m / 4 % 2 + m / 8 % 2 + m / 16 % 2 + m / 32 % 2 + m / 64 % 2 + m / 128 % 2
def tb (m s : Nat) : Bool := decide (m / 2 ^ s % 2 = 1)
def sb (m s : Nat) : Nat := if tb m s = true then m else m + 2 ^ s
def cb (m s : Nat) : Nat := if tb m s = true then m - 2 ^ s else m
set_option maxRecDepth 100000 in
theorem bx_test : ∀ m, m < 256 → ∀ s, s < 8 → ((nI m >>> (nI s &&& 31)) &&& (1 : Int32)) = b01 (tb m s) := by decide +kernel
set_option maxRecDepth 100000 in
theorem bx_set : ∀ m, m < 256 → ∀ s, s < 8 → (nI m ||| ((1 : Int32) <<< (nI s &&& 31))) = nI (sb m s) := by decide +kernel
set_option maxRecDepth 100000 in
theorem bx_clr : ∀ m, m < 256 → ∀ s, s < 8 → (nI m &&& (((1 : Int32) <<< (nI s &&& 31)) ^^^ (-1 : Int32))) = nI (cb m s) := by decide +kernel
set_option maxRecDepth 100000 in
theorem bx_bits : ∀ m, m < 256 → f_X9_bitsOf fu (nI m) = some (nI (pc m)) := by decide +kernel
set_option maxRecDepth 100000 in
theorem bx_cnt : ∀ m, m < 256 → f_J6_bitCount_0f7a4 fu (nI m) = some (nI (pc m)) := by decide +kernel
theorem bx_full : ∀ P, P < 9 → (((1 : Int32) <<< (nI P &&& 31)) - (1 : Int32)) = nI (2 ^ P - 1) := by decide +kernel
theorem bx_one : ∀ s, s < 8 → ((1 : Int32) <<< (nI s &&& 31)) = nI (2 ^ s) := by decide +kernel
def bu (a : Nat) : Nat := 2 ^ a % 128
set_option maxRecDepth 100000 in
theorem bx_or : ∀ m, m < 128 → ∀ a, a < 8 → (nI m ||| nI (bu a)) = nI (m ||| bu a) := by decide +kernel
set_option maxRecDepth 100000 in
theorem bx_sb : ∀ m, m < 256 → ∀ s, s < 8 → ∀ P, P < 9 → s < P → m < 2 ^ P → sb m s < 2 ^ P := by decide +kernel
set_option maxRecDepth 100000 in
theorem bx_cb : ∀ m, m < 256 → ∀ s, s < 8 → ∀ P, P < 9 → m < 2 ^ P → cb m s < 2 ^ P := by decide +kernel
def b01N (c : Bool) : Nat := if c = true then 1 else 0
set_option maxRecDepth 100000 in
theorem bx_pc : ∀ m, m < 256 → ∀ s, s < 8 → pc (sb m s) + b01N (tb m s) = pc m + 1 ∧ pc (cb m s) + b01N (tb m s) = pc m := by decide +kernel
set_option maxRecDepth 100000 in
theorem bx_tsb : ∀ m, m < 256 → ∀ s, s < 8 → ∀ t, t < 8 → tb (sb m s) t = (tb m t || decide (t = s)) ∧ tb (cb m s) t = (tb m t && !decide (t = s)) := by decide +kernel
set_option maxRecDepth 100000 in
theorem bx_osb : ∀ m, m < 128 → ∀ a, a < 8 → ∀ s, s < 7 → tb (m ||| bu a) s = (tb m s || decide (s = a)) := by decide +kernel
set_option maxRecDepth 100000 in
theorem bx_osb2 : ∀ m, m < 128 → ∀ a, a < 8 → ∀ s, s < 7 → tb (m ||| bu a) s = false → sb (m ||| bu a) s = (sb m s ||| bu a) := by decide +kernel
theorem bx_lt : ∀ m, m < 128 → ∀ a, a < 8 → (m ||| bu a) < 128 := by decide +kernel
theorem bx_bu : ∀ a, a < 7 → ((1 : Int32) <<< (nI a &&& 31)) = nI (bu a) ∧ (nI 0 ||| ((1 : Int32) <<< (nI a &&& 31))) = nI (0 ||| bu a) := by decide +kernel
theorem bx_fpc : ∀ P, P < 9 → pc (2 ^ P - 1) = P ∧ 2 ^ P - 1 < 2 ^ P ∧ 2 ^ P ≤ 256 := by decide
set_option maxRecDepth 100000 in
theorem bx_pcP : ∀ m, m < 256 → ∀ P, P < 9 → m < 2 ^ P → pc m ≤ P := by decide +kernel
set_option maxRecDepth 100000 in
theorem bx_fullset : ∀ m, m < 128 → 7 ≤ pc m → ∀ s, s < 7 → tb m s = true := by decide +kernel
