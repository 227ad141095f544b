/-! ===== what holds between the class's memory and the reference's ===== -/
def HR (P S r : Nat) (a : Nat → Int32) (pe sl : Nat → Nat → Int32) (jp js jm jt jr : Int32) (pa gr ki nu lo ow : Nat → Int32) : Prop :=
  (P ≤ 8 ∧ S ≤ 7 ∧ a 2 = nI P ∧ jp = nI P ∧ a 3 = nI S ∧ js = nI S) ∧ (a 4 = jm ∧ a 5 = jt ∧ a 6 = nI r ∧ jr = nI r ∧ -99 ≤ jm.toInt ∧ jm.toInt ≤ 99) ∧
  (∀ p, p < P → pe p 0 = pa p ∧ pe p 1 = gr p ∧ ∃ g, g < 8 ∧ gr p = nI g) ∧
  (∀ s, s < S → sl s 0 = ki s ∧ sl s 1 = nu s ∧ sl s 2 = lo s ∧ sl s 3 = ow s ∧ (∃ w, w < P ∧ ow s = nI w) ∧ ∃ k, k < 6 ∧ ki s = nI k ∧ ∃ l, l < 10 ∧ lo s = nI l)
def HI (P S r : Nat) (I J : mm_T) : Prop := HR P S r (I 1 0) (I 2) (I 6) (J 9 0 9) (J 9 0 14) (J 9 0 15) (J 9 0 16) (J 9 0 4) (J 33 0) (J 34 0) (J 35 0) (J 36 0) (J 37 0) (J 38 0)
/-- an image: a house that was -/
def KR (tc S : Nat) (fl : Int32) (a : Nat → Int32) (pe sl : Nat → Nat → Int32) (jp js jm jt jr : Int32) (o k2 ki : Nat → Int32) : Prop :=
  (fl = 0 ∧ js = -1) ∨ (fl = 1 ∧ ∃ P' S' r', r' < tc ∧ S' ≤ S ∧ HR P' S' r' a (fun p => pe (8 + p)) (fun s => sl (7 + s)) jp js jm jt jr o (fun p => o (8 + p)) ki k2 (fun s => k2 (7 + s)) (fun s => k2 (14 + s)))
def KI (tc S : Nat) (I J : mm_T) : Prop := KR tc S (I 8 0 2) (I 1 1) (I 2) (I 6) (J 9 0 53) (J 9 0 52) (J 9 0 54) (J 9 0 55) (J 9 0 56) (J 45 0) (J 46 0) (J 35 0)
def TP (B : Nat) (i1 : Int32) (t : Nat → Int32) (j6 : Int32) (u : Nat → Int32) : Prop := B ≤ 160 ∧ i1 = nI B ∧ j6 = nI B ∧ ∀ j, j < B → t j = u j ∧ ∃ v, v < 256 ∧ u j = nI v
def TI (B : Nat) (I J : mm_T) : Prop := TP B (I 3 0 1) (I 18 0) (J 9 0 6) (J 32 0)
def SH (x26 : Int32) (x5 x27 : Nat → Int32) (j47 j48 j49 : Int32) (j50 : Nat → Int32) : Prop := x26 ≠ -1 ∧ ((x5 1 = -1 ∧ j47 = 0) ∨ (∃ so z, so < 3 ∧ z ≤ 40 ∧ j47 = 1 ∧ x5 1 = nI so ∧ j48 = nI so ∧ x5 2 = nI z ∧ j49 = nI z ∧ ∀ j, j < z → x27 j = j50 j))
def SI (I J : mm_T) : Prop := ∀ s, s < 4 → SH (I 26 0 s) (I 5 s) (I 27 s) (J 47 0 s) (J 48 0 s) (J 49 0 s) (fun j => J 50 0 (40 * s + j))
/-- what reading a text leaves as it was -/
def RF (J J' : mm_T) : Prop := (∀ k, k ≠ 9 → J' k = J k) ∧ ∀ j, (j < 23 ∨ 31 < j) → J' 9 0 j = J 9 0 j
/-- text t says the same in both: sy of a part and of the names -/
def TX (t : Nat) (i7 i28 j30 j31 : Nat → Int32) (sy : Nat → (Nat → Int32) → Int32) : Prop :=
  (∀ (n : Nat) (I : mm_T) (i part : Nat), part < 3 → I 7 t = i7 → I 28 t = i28 → ∃ f, f_X7_worth fu n I (nI t) (nI part) i = some (mm_row I 29 t f, sy part (I 10 i))) ∧
  (∀ (J : mm_T) (part : Nat), part < 3 → J 31 0 t = j31 t → (∀ j, j < 160 → J 30 0 (160 * t + j) = j30 (160 * t + j)) → ∃ J', f_X9_read fu J (nI t) (nI part) = some (J', sy part (fun j => J 9 0 (17 + j))) ∧ RF J J') ∧
  ∀ (part : Nat) (a b : Nat → Int32), (∀ j, j < 6 → a j = b j) → sy part a = sy part b
def XI (tc n : Nat) (I J : mm_T) : Prop := n = 3 * tc + 141 ∧ 1 ≤ tc ∧ tc ≤ 6 ∧ I 8 0 5 = nI tc ∧ J 9 0 3 = nI tc ∧ (∀ t, t < tc → I 20 0 t = nI t) ∧ ∀ t, t < tc → ∃ sy, TX t (I 7 t) (I 28 t) (J 30 0) (J 31 0) sy
theorem HR.to {P S r : Nat} {a a' : Nat → Int32} {pe sl pe' sl' : Nat → Nat → Int32} {jp js jm jt jr : Int32} {pa gr ki nu lo ow pa' gr' ki' nu' lo' ow' : Nat → Int32} (h : HR P S r a pe sl jp js jm jt jr pa gr ki nu lo ow) (ha : ∀ j, 2 ≤ j → j < 7 → a' j = a j) (hp : ∀ p, p < P → pe' p 0 = pe p 0 ∧ pe' p 1 = pe p 1 ∧ pa' p = pa p ∧ gr' p = gr p) (hs : ∀ s, s < S → (sl' s 0 = sl s 0 ∧ sl' s 1 = sl s 1 ∧ sl' s 2 = sl s 2 ∧ sl' s 3 = sl s 3) ∧ ki' s = ki s ∧ nu' s = nu s ∧ lo' s = lo s ∧ ow' s = ow s) : HR P S r a' pe' sl' jp js jm jt jr pa' gr' ki' nu' lo' ow' := by
  obtain ⟨⟨h1, h2, h3, h4, h5, h6⟩, ⟨g1, g2, g3, g4, g5, g6⟩, hP, hS⟩ := h
  refine ⟨⟨h1, h2, by rw [ha 2 (by omega) (by omega)]; exact h3, h4, by rw [ha 3 (by omega) (by omega)]; exact h5, h6⟩, ⟨by rw [ha 4 (by omega) (by omega)]; exact g1, by rw [ha 5 (by omega) (by omega)]; exact g2, by rw [ha 6 (by omega) (by omega)]; exact g3, g4, g5, g6⟩, fun p hpP => ?_, fun s hsS => ?_⟩
  · obtain ⟨e1, e2, e3, e4⟩ := hp p hpP
    rw [e1, e2, e3, e4]; exact hP p hpP
  · obtain ⟨⟨e1, e2, e3, e4⟩, e5, e6, e7, e8⟩ := hs s hsS
    rw [e1, e2, e3, e4, e5, e6, e7, e8]; exact hS s hsS
theorem KR.to {tc tc' S S' : Nat} {fl : Int32} {a a' : Nat → Int32} {pe sl pe' sl' : Nat → Nat → Int32} {jp js jm jt jr : Int32} {o k2 ki ki' : Nat → Int32} (h : KR tc S fl a pe sl jp js jm jt jr o k2 ki) (htc : tc ≤ tc') (hS : S ≤ S') (ha : ∀ j, 2 ≤ j → j < 7 → a' j = a j) (hp : ∀ p, pe' (8 + p) = pe (8 + p)) (hs : ∀ s, sl' (7 + s) = sl (7 + s)) (hk : ∀ s, s < S → ki' s = ki s) : KR tc' S' fl a' pe' sl' jp js jm jt jr o k2 ki' := by
  rcases h with h | ⟨h1, P', S9, r', h2, h3, h4⟩
  · exact Or.inl h
  · refine Or.inr ⟨h1, P', S9, r', by omega, by omega, h4.to ha (fun p _ => ⟨by rw [hp], by rw [hp], rfl, rfl⟩) (fun s hs2 => ⟨⟨by rw [hs], by rw [hs], by rw [hs], by rw [hs]⟩, hk s (by omega), rfl, rfl, rfl⟩)⟩
theorem KI.to {tc tc' S S' : Nat} {I J I' J' : mm_T} (h : KI tc S I J) (htc : tc ≤ tc') (hS : S ≤ S') (h8 : I' 8 0 2 = I 8 0 2) (h1 : ∀ j, 2 ≤ j → j < 7 → I' 1 1 j = I 1 1 j) (h2 : ∀ p j, I' 2 (8 + p) j = I 2 (8 + p) j) (h6 : ∀ s j, I' 6 (7 + s) j = I 6 (7 + s) j) (j52 : J' 9 0 52 = J 9 0 52) (j53 : J' 9 0 53 = J 9 0 53) (j54 : J' 9 0 54 = J 9 0 54) (j55 : J' 9 0 55 = J 9 0 55) (j56 : J' 9 0 56 = J 9 0 56) (j45 : J' 45 0 = J 45 0) (j46 : J' 46 0 = J 46 0) (j35 : ∀ s, s < S → J' 35 0 s = J 35 0 s) : KI tc' S' I' J' := by
  unfold KI at h ⊢
  rw [h8, j52, j53, j54, j55, j56, j45, j46]
  exact h.to htc hS h1 (fun p => funext (h2 p)) (fun s => funext (h6 s)) j35
/-- the texts, where neither side's cells of them have changed -/
theorem XI.to {tc n : Nat} {I J I' J' : mm_T} (h : XI tc n I J) (h8 : I' 8 0 5 = I 8 0 5) (h9 : J' 9 0 3 = J 9 0 3) (h20 : I' 20 = I 20) (h7 : I' 7 = I 7) (h28 : I' 28 = I 28) (h30 : J' 30 = J 30) (h31 : J' 31 = J 31) : XI tc n I' J' := by
  obtain ⟨a1, a2, a3, a4, a5, a6, a7⟩ := h
  refine ⟨a1, a2, a3, by rw [h8]; exact a4, by rw [h9]; exact a5, by rw [h20]; exact a6, fun t ht => ?_⟩
  rw [h7, h28, h30, h31]; exact a7 t ht
/-- the walk through all rows, as BEST does it when the house has changed -/
def lk_body (N n : Nat) (I : mm_T) (t1 : Int32) : Option mm_T := pz_bd (f_X0_begin N n I 1 t1) fun q_3 => pz_bd (f_X4_note N n q_3 0 1 0) fun q_4 => pz_bd (f_X4_note N n q_4 1 1 0) fun q_5 => f_C4 N n 20 0 q_5 0 0
/-- what BEST has found holds still -/
def BV (r : Nat) (I : mm_T) : Prop := ∃ (nc : Nat) (Ic If : mm_T), (∀ j, 2 ≤ j → j < 7 → Ic 1 0 j = I 1 0 j) ∧ (∀ p, p < 8 → Ic 2 p = I 2 p) ∧ (∀ s, s < 7 → Ic 6 s = I 6 s) ∧ Ic 7 r = I 7 r ∧ Ic 28 r = I 28 r ∧ (3 * r + 144 ≤ nc ∧ lk_body fu nc Ic (nI r) = some If) ∧ ∀ q, q < 2 → I 22 0 q = If 22 0 q ∧ I 23 0 q = If 23 0 q ∧ I 24 0 q = If 24 0 q ∧ I 25 0 q = If 25 0 q
def CA (c r : Nat) (I : mm_T) : Prop := I 1 0 7 = nI c ∧ (I 4 0 6 = -1 ∨ ∃ q, q ≤ c ∧ I 4 0 6 = nI q) ∧ (I 4 0 6 = I 1 0 7 → BV r I)
theorem BV.to {r : Nat} {I I' : mm_T} (h : BV r I) (h1 : ∀ j, 2 ≤ j → j < 7 → I' 1 0 j = I 1 0 j) (h2 : ∀ p, p < 8 → I' 2 p = I 2 p) (h6 : ∀ s, s < 7 → I' 6 s = I 6 s) (h7 : I' 7 r = I 7 r) (h28 : I' 28 r = I 28 r) (h22 : I' 22 = I 22) (h23 : I' 23 = I 23) (h24 : I' 24 = I 24) (h25 : I' 25 = I 25) : BV r I' := by
  obtain ⟨nc, Ic, If, a1, a2, a3, a4, a5, a6, a7⟩ := h
  exact ⟨nc, Ic, If, fun j x y => by rw [h1 j x y]; exact a1 j x y, fun p x => by rw [h2 p x]; exact a2 p x, fun s x => by rw [h6 s x]; exact a3 s x, by rw [h7]; exact a4, by rw [h28]; exact a5, a6, fun q hq => by rw [h22, h23, h24, h25]; exact a7 q hq⟩
theorem CA.to {c r : Nat} {I I' : mm_T} (h : CA c r I) (h17 : I' 1 0 7 = I 1 0 7) (h4 : I' 4 = I 4) (h1 : ∀ j, 2 ≤ j → j < 7 → I' 1 0 j = I 1 0 j) (h2 : ∀ p, p < 8 → I' 2 p = I 2 p) (h6 : ∀ s, s < 7 → I' 6 s = I 6 s) (h7 : I' 7 r = I 7 r) (h28 : I' 28 r = I 28 r) (h22 : I' 22 = I 22) (h23 : I' 23 = I 23) (h24 : I' 24 = I 24) (h25 : I' 25 = I 25) : CA c r I' := by
  obtain ⟨a1, a2, a3⟩ := h
  exact ⟨by rw [h17]; exact a1, by rw [h4]; exact a2, fun e => (a3 (by rw [← h4, ← h17]; exact e)).to h1 h2 h6 h7 h28 h22 h23 h24 h25⟩
/-- the house has changed: nothing that was found holds -/
theorem CA.chg {c r r' : Nat} {I I' : mm_T} (h : CA c r I) (hc : c < 1000000) (h17 : I' 1 0 7 = I 1 0 7 + 1) (h4 : I' 4 0 6 = I 4 0 6) : CA (c + 1) r' I' := by
  obtain ⟨a1, a2, a3⟩ := h
  have e1 : I' 1 0 7 = nI (c + 1) := by rw [h17, a1, nI_1]
  refine ⟨e1, ?_, fun e => ?_⟩
  · rw [h4]; rcases a2 with a2 | ⟨q, hq, a2⟩
    · exact Or.inl a2
    · exact Or.inr ⟨q, by omega, a2⟩
  · exfalso
    rw [h4, e1] at e
    rcases a2 with a2 | ⟨q, hq, a2⟩
    · rw [a2] at e
      have := congrArg Int32.toInt e
      rw [nI_int (by omega), show (-1 : Int32).toInt = -1 by decide] at this
      omega
    · rw [a2] at e
      have := (nI_eq (by omega) (by omega)).mp e
      omega
def RC (c n : Nat) (I J : mm_T) : Prop := ∃ (P S r tc B : Nat), r < tc ∧ HI P S r I J ∧ KI tc S I J ∧ TI B I J ∧ SI I J ∧ XI tc n I J ∧ CA c r I
def Inv (k n : Nat) (I J : mm_T) : Prop := ∃ c, c ≤ 2 * k ∧ RC c n I J
theorem Inv.mono {k n : Nat} {I J : mm_T} (h : Inv k n I J) : Inv (k + 6) n I J := by
  obtain ⟨c, h1, h2⟩ := h
  exact ⟨c, by omega, h2⟩
theorem Inv.n144 {k n : Nat} {I J : mm_T} (h : Inv k n I J) : 144 ≤ n := by
  obtain ⟨c, h0, P, S, r, tc, B, h1, h3, h4, h5, h6, h7, h8⟩ := h
  have := h7.1; have := h7.2.1; omega
theorem SI.to {I J I' J' : mm_T} (h : SI I J) (h26 : I' 26 = I 26) (h5 : I' 5 = I 5) (h27 : I' 27 = I 27) (j47 : J' 47 = J 47) (j48 : J' 48 = J 48) (j49 : J' 49 = J 49) (j50 : J' 50 = J 50) : SI I' J' := by
  intro s hs
  rw [h26, h5, h27, j47, j48, j49, j50]; exact h s hs
theorem TI.to {B : Nat} {I J I' J' : mm_T} (h : TI B I J) (h3 : I' 3 0 1 = I 3 0 1) (h18 : I' 18 = I 18) (j6 : J' 9 0 6 = J 9 0 6) (j32 : J' 32 = J 32) : TI B I' J' := by
  unfold TI
  rw [h3, h18, j6, j32]; exact h
theorem RC.house {c n P' S' r' r tc B : Nat} {I J I' J' : mm_T} (h1 : r' < tc) (H' : HI P' S' r' I' J') (K' : KI tc S' I' J') (T : TI B I J) (SS : SI I J) (X : XI tc n I J) (C : CA c r I) (hc : c < 100000) (hIk : ∀ k, k ≠ 1 → k ≠ 2 → k ≠ 6 → I' k = I k) (hJk : ∀ k, k ≠ 9 → (k < 33 ∨ 38 < k) → J' k = J k) (hJ9 : ∀ j, j ≠ 4 → j ≠ 9 → j ≠ 14 → j ≠ 15 → j ≠ 16 → J' 9 0 j = J 9 0 j) (h17 : I' 1 0 7 = I 1 0 7 + 1) : RC (c + 1) n I' J' := by
  have k3 := hIk 3 (by decide) (by decide) (by decide)
  have k8 := hIk 8 (by decide) (by decide) (by decide)
  have k4 := hIk 4 (by decide) (by decide) (by decide)
  refine ⟨P', S', r', tc, B, h1, H', K', T.to (by rw [k3]) (hIk 18 (by decide) (by decide) (by decide)) (hJ9 6 (by decide) (by decide) (by decide) (by decide) (by decide)) (hJk 32 (by decide) (by decide)), SS.to (hIk 26 (by decide) (by decide) (by decide)) (hIk 5 (by decide) (by decide) (by decide)) (hIk 27 (by decide) (by decide) (by decide)) (hJk 47 (by decide) (by decide)) (hJk 48 (by decide) (by decide)) (hJk 49 (by decide) (by decide)) (hJk 50 (by decide) (by decide)), X.to (by rw [k8]) (hJ9 3 (by decide) (by decide) (by decide) (by decide) (by decide)) (hIk 20 (by decide) (by decide) (by decide)) (hIk 7 (by decide) (by decide) (by decide)) (hIk 28 (by decide) (by decide) (by decide)) (hJk 30 (by decide) (by decide)) (hJk 31 (by decide) (by decide)), C.chg (by omega) h17 (by rw [k4])⟩
