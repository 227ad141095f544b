/-! ===== what stands between two tokens, on both sides ===== -/
theorem i64_inj {x y : Int32} : x.toInt64 = y.toInt64 ↔ x = y := ⟨fun h => by rw [← i64_back (x := x), ← i64_back (x := y), h], fun h => by rw [h]⟩
theorem bt_ {α : Type} {P : Prop} [Decidable P] (h : P) {x y : α} : (if b01 (decide P) = 0 then x else y) = y := by rw [decide_eq_true h, if_neg (show ¬ b01 true = 0 by decide)]
theorem bf_ {α : Type} {P : Prop} [Decidable P] (h : ¬ P) {x y : α} : (if b01 (decide P) = 0 then x else y) = x := by rw [decide_eq_false h, if_pos (show b01 false = 0 from rfl)]
theorem pz_bd_id {α : Type} {x : Option α} : (pz_bd x fun q => some q) = x := by cases x <;> rfl
/-- the token at p, on both sides -/
def tk_ (B Sz : Nat) (w : Nat → Int32) (p q : Nat) (I J : mm_T) : Prop :=
  (p = B ∧ q = B ∧ I 3 0 6 = 1 ∧ J 9 0 26 = 0 ∧ J 9 0 27 = nI Sz) ∨ (p < q ∧ q ≤ B ∧ J 9 0 27 = nI p ∧ (
    (I 3 0 6 = 3 ∧ J 9 0 26 = 2 ∧ J 9 0 25 = nI q ∧ J 9 0 28 = I 3 0 7 ∧ 0 ≤ I 3 0 7) ∨
    (∃ s, s ∈ sgs ∧ I 3 0 6 = nI s ∧ J 9 0 26 = 3 ∧ J 9 0 25 = nI q ∧ J 9 0 28 = nI s) ∨
    ((∀ x, p ≤ x → x < q → isl (w x) = true) ∧ J 9 0 26 = 1 ∧ J 9 0 25 = nI q ∧ ∃ k, k < 13 ∧ I 3 0 6 = wt k ∧ ∀ k', 1 ≤ k' → k' < 13 → isw w p q k' = decide (k' = k)) ∨
    (I 3 0 6 = 2 ∧ J 9 0 26 = 4)))
theorem sg_nl : ∀ s, s ∈ sgs → isl (nI s) = false ∧ isd (nI s) = false ∧ s < 256 := by decide
theorem isd_nl {v : Int32} (h : isd v = true) : isl v = false := by
  obtain ⟨e, e1, e2, _⟩ := isd_nI h
  rw [e2]
  exact (by decide : ∀ e, e < 10 → isl (nI (48 + e)) = false) e e1
theorem tk_of {B Sz p q : Nat} {w : Nat → Int32} {I J : mm_T} (hC : TC B w p q (I 3 0 6) (I 3 0 7)) (hR : TR B Sz w p q J) : tk_ B Sz w p q I J := by
  rcases hC with ⟨e1, e2, e3⟩ | ⟨c1, c2, hC⟩
  · rcases hR with ⟨_, _, f3, f4⟩ | ⟨d1, d2, _⟩
    · exact Or.inl ⟨e1, e2, e3, f3, f4⟩
    · omega
  rcases hR with ⟨f1, _⟩ | ⟨_, _, h27, hR⟩
  · omega
  refine Or.inr ⟨c1, c2, h27, ?_⟩
  rcases hC with ⟨d1, d2, d3, d4⟩ | ⟨s, s1, s2, s3, s4⟩ | ⟨w1, w2, w3⟩ | ⟨x1, x2, x3, x4, x5⟩
  · have hd := d1 p (Nat.le_refl _) c1
    have hl := isd_nl hd
    rcases hR with ⟨r1, r2, r3⟩ | ⟨s, s1, s2, _⟩ | ⟨r1, _⟩ | ⟨_, r2, _⟩
    · by_cases c : q - p ≤ 4
      · rw [if_pos c] at d3
        obtain ⟨r4, r5, r6⟩ := r2 c
        have hj : ∀ j, j < q - p → isd (w (p + j)) = true := fun j hj => d1 (p + j) (by omega) (by omega)
        have hn := nv_nI (q - p) c hj
        have hb := nvN_b c hj
        refine Or.inl ⟨d3, r4, r5, by rw [r6, d4, hn], ?_⟩
        rw [d4, hn, i32_le, nI_int (by omega), show (0 : Int32).toInt = 0 by decide]; omega
      · rw [if_neg c] at d3
        exact Or.inr (Or.inr (Or.inr ⟨d3, r3 c⟩))
    · rw [s2, (sg_nl s s1).2.1] at hd; cases hd
    · rw [r1 p (Nat.le_refl _) c1] at hl; cases hl
    · rw [r2] at hd; cases hd
  · obtain ⟨n1, n2, n3⟩ := sg_nl s s1
    rw [← s3] at n1 n2
    rcases hR with ⟨r1, _⟩ | ⟨s', t1, t2, t3, t4, t5⟩ | ⟨r1, _⟩ | ⟨_, _, ⟨v, v1, v2, v3⟩, _⟩
    · rw [r1 p (Nat.le_refl _) c1] at n2; cases n2
    · exact Or.inr (Or.inl ⟨s', t1, by rw [s4, ← s3, t2], t3, t4, t5⟩)
    · rw [r1 p (Nat.le_refl _) c1] at n1; cases n1
    · have e : s = v := (nI_eqM (by omega) (by omega)).mp (s3.symm.trans v2)
      rw [← e, List.contains_iff_mem.mpr s1] at v3; cases v3
  · have hl := w1 p (Nat.le_refl _) c1
    rcases hR with ⟨r1, _⟩ | ⟨s', t1, t2, _⟩ | ⟨r1, r2, r3⟩ | ⟨r1, _⟩
    · rw [isd_nl (r1 p (Nat.le_refl _) c1)] at hl; cases hl
    · rw [t2, (sg_nl s' t1).1] at hl; cases hl
    · exact Or.inr (Or.inr (Or.inl ⟨w1, r2, r3, w3⟩))
    · rw [r1] at hl; cases hl
  · rcases hR with ⟨r1, _⟩ | ⟨s', t1, t2, _⟩ | ⟨r1, _⟩ | ⟨_, _, _, r4⟩
    · rw [r1 p (Nat.le_refl _) c1] at x3; cases x3
    · obtain ⟨v, v1, v2, v3⟩ := x4
      have e : s' = v := (nI_eqM (by have := (sg_nl s' t1).2.2; omega) (by omega)).mp (t2.symm.trans v2)
      rw [← e, List.contains_iff_mem.mpr t1] at v3; cases v3
    · rw [r1 p (Nat.le_refl _) c1] at x2; cases x2
    · exact Or.inr (Or.inr (Or.inr ⟨x5, r4⟩))
theorem TR.to {B Sz p q : Nat} {w : Nat → Int32} {J J' : mm_T} (h : TR B Sz w p q J) (h25 : J' 9 0 25 = J 9 0 25) (h26 : J' 9 0 26 = J 9 0 26) (h27 : J' 9 0 27 = J 9 0 27) (h28 : J' 9 0 28 = J 9 0 28) : TR B Sz w p q J' := by
  unfold TR; rw [h25, h26, h27, h28]; exact h
theorem sg_ne : ∀ s, s ∈ sgs → ¬ (1 : Int32) = nI s ∧ ¬ (2 : Int32) = nI s ∧ ¬ (3 : Int32) = nI s ∧ ∀ k, k < 13 → ¬ wt k = nI s := by decide
theorem wt_ne : ∀ k, k < 13 → 1 ≤ k → ¬ (1 : Int32) = nI (100 + k) ∧ ¬ (2 : Int32) = nI (100 + k) ∧ ¬ (3 : Int32) = nI (100 + k) ∧ ∀ s, s ∈ sgs → ¬ nI s = nI (100 + k) := by decide
theorem wt_eq : ∀ k', k' < 13 → ∀ k, k < 13 → 1 ≤ k → decide (k = k') = decide (wt k' = nI (100 + k)) := by decide
/-- whether the token is a sign -/
theorem sign_r {B Sz p q : Nat} {w : Nat → Int32} {I J : mm_T} (h : tk_ B Sz w p q I J) (h30 : J 9 0 30 = 0) {s : Nat} (hs : s ∈ sgs) : f_X9_isSign fu J (nI s) = some (b01 (decide (I 3 0 6 = nI s))) := by
  obtain ⟨n1, n2, n3, n4⟩ := sg_ne s hs
  unfold f_X9_isSign
  rw [if_pos h30]
  rcases h with ⟨_, _, i6, j6, _⟩ | ⟨_, _, _, ⟨i6, j6, _⟩ | ⟨s', s1, i6, j6, _, j8⟩ | ⟨_, j6, _, k, k1, i6, _⟩ | ⟨i6, j6⟩⟩
  · rw [if_neg (by rw [j6]; decide), i6, decide_eq_false n1]; rfl
  · rw [if_neg (by rw [j6]; decide), i6, decide_eq_false n3]; rfl
  · rw [if_pos j6, j8, i6]
    by_cases e : nI s' = nI s
    · rw [if_pos (by rw [lg_cmp_eq, i64_inj]; exact e), decide_eq_true e]; rfl
    · rw [if_neg (by rw [lg_cmp_eq, i64_inj]; exact e), decide_eq_false e]; rfl
  · rw [if_neg (by rw [j6]; decide), i6, decide_eq_false (n4 k k1)]; rfl
  · rw [if_neg (by rw [j6]; decide), i6, decide_eq_false n2]; rfl
theorem sign_b {N : Nat} {J : mm_T} {v : Int32} (h : J 9 0 30 = 1) : f_X9_isSign N J v = some 0 := by
  unfold f_X9_isSign; rw [if_neg (by rw [h]; decide)]
/-- whether the token is a word -/
theorem word_k {B Sz t p q : Nat} {w : Nat → Int32} {I I0 J : mm_T} (hY : BY B Sz t w I0 J) (h : tk_ B Sz w p q I J) (h30 : J 9 0 30 = 0) {k : Nat} (hk : k < 13) (hk1 : 1 ≤ k) : f_X9_isWord fu J (l8 k 0) (l8 k 1) (l8 k 2) (l8 k 3) (l8 k 4) (l8 k 5) (l8 k 6) (l8 k 7) = some (b01 (decide (I 3 0 6 = nI (100 + k)))) := by
  obtain ⟨n1, n2, n3, n4⟩ := wt_ne k hk hk1
  have hB : B ≤ 160 := by have := hY.1; omega
  have no : ¬ J 9 0 26 = 1 → f_X9_isWord fu J (l8 k 0) (l8 k 1) (l8 k 2) (l8 k 3) (l8 k 4) (l8 k 5) (l8 k 6) (l8 k 7) = some 0 := fun e => by
    unfold f_X9_isWord; rw [if_pos h30, if_neg e]
  rcases h with ⟨_, _, i6, j6, _⟩ | ⟨h1, h2, h27, ⟨i6, j6, _⟩ | ⟨s', s1, i6, j6, _, j8⟩ | ⟨w1, j6, j5, k', k1, i6, w2⟩ | ⟨i6, j6⟩⟩
  · rw [no (by rw [j6]; decide), i6, decide_eq_false n1]; rfl
  · rw [no (by rw [j6]; decide), i6, decide_eq_false n3]; rfl
  · rw [no (by rw [j6]; decide), i6, decide_eq_false (n4 s' s1)]; rfl
  · rw [isword_r hY h30 j6 h27 j5 h2 (by omega), isw_lm hk hk1 h1 w1, w2 k hk1 hk, wt_eq k' k1 k hk hk1, i6]
  · rw [no (by rw [j6]; decide), i6, decide_eq_false n2]; rfl
theorem word_b {N : Nat} {J : mm_T} {c0 c1 c2 c3 c4 c5 c6 c7 : Int32} (h : J 9 0 30 = 1) : f_X9_isWord N J c0 c1 c2 c3 c4 c5 c6 c7 = some 0 := by
  unfold f_X9_isWord; rw [if_neg (by rw [h]; decide)]
theorem word_1 {B Sz t p q : Nat} {w : Nat → Int32} {I I0 J : mm_T} (hY : BY B Sz t w I0 J) (h : tk_ B Sz w p q I J) (h30 : J 9 0 30 = 0) : f_X9_isWord fu J (109 : Int32) (105 : Int32) (110 : Int32) (117 : Int32) (116 : Int32) (101 : Int32) (0 : Int32) (0 : Int32) = some (b01 (decide (I 3 0 6 = 101))) := by
  have e := word_k hY h h30 (k := 1) (by decide) (by decide)
  rw [show l8 1 0 = 109 by decide, show l8 1 1 = 105 by decide, show l8 1 2 = 110 by decide, show l8 1 3 = 117 by decide, show l8 1 4 = 116 by decide, show l8 1 5 = 101 by decide, show l8 1 6 = 0 by decide, show l8 1 7 = 0 by decide, show nI (100 + 1) = 101 by decide] at e
  exact e
theorem word_2 {B Sz t p q : Nat} {w : Nat → Int32} {I I0 J : mm_T} (hY : BY B Sz t w I0 J) (h : tk_ B Sz w p q I J) (h30 : J 9 0 30 = 0) : f_X9_isWord fu J (119 : Int32) (97 : Int32) (105 : Int32) (116 : Int32) (101 : Int32) (100 : Int32) (0 : Int32) (0 : Int32) = some (b01 (decide (I 3 0 6 = 102))) := by
  have e := word_k hY h h30 (k := 2) (by decide) (by decide)
  rw [show l8 2 0 = 119 by decide, show l8 2 1 = 97 by decide, show l8 2 2 = 105 by decide, show l8 2 3 = 116 by decide, show l8 2 4 = 101 by decide, show l8 2 5 = 100 by decide, show l8 2 6 = 0 by decide, show l8 2 7 = 0 by decide, show nI (100 + 2) = 102 by decide] at e
  exact e
theorem word_3 {B Sz t p q : Nat} {w : Nat → Int32} {I I0 J : mm_T} (hY : BY B Sz t w I0 J) (h : tk_ B Sz w p q I J) (h30 : J 9 0 30 = 0) : f_X9_isWord fu J (115 : Int32) (117 : Int32) (110 : Int32) (103 : Int32) (0 : Int32) (0 : Int32) (0 : Int32) (0 : Int32) = some (b01 (decide (I 3 0 6 = 103))) := by
  have e := word_k hY h h30 (k := 3) (by decide) (by decide)
  rw [show l8 3 0 = 115 by decide, show l8 3 1 = 117 by decide, show l8 3 2 = 110 by decide, show l8 3 3 = 103 by decide, show l8 3 4 = 0 by decide, show l8 3 5 = 0 by decide, show l8 3 6 = 0 by decide, show l8 3 7 = 0 by decide, show nI (100 + 3) = 103 by decide] at e
  exact e
theorem word_4 {B Sz t p q : Nat} {w : Nat → Int32} {I I0 J : mm_T} (hY : BY B Sz t w I0 J) (h : tk_ B Sz w p q I J) (h30 : J 9 0 30 = 0) : f_X9_isWord fu J (115 : Int32) (111 : Int32) (114 : Int32) (116 : Int32) (0 : Int32) (0 : Int32) (0 : Int32) (0 : Int32) = some (b01 (decide (I 3 0 6 = 104))) := by
  have e := word_k hY h h30 (k := 4) (by decide) (by decide)
  rw [show l8 4 0 = 115 by decide, show l8 4 1 = 111 by decide, show l8 4 2 = 114 by decide, show l8 4 3 = 116 by decide, show l8 4 4 = 0 by decide, show l8 4 5 = 0 by decide, show l8 4 6 = 0 by decide, show l8 4 7 = 0 by decide, show nI (100 + 4) = 104 by decide] at e
  exact e
theorem word_5 {B Sz t p q : Nat} {w : Nat → Int32} {I I0 J : mm_T} (hY : BY B Sz t w I0 J) (h : tk_ B Sz w p q I J) (h30 : J 9 0 30 = 0) : f_X9_isWord fu J (98 : Int32) (97 : Int32) (114 : Int32) (0 : Int32) (0 : Int32) (0 : Int32) (0 : Int32) (0 : Int32) = some (b01 (decide (I 3 0 6 = 105))) := by
  have e := word_k hY h h30 (k := 5) (by decide) (by decide)
  rw [show l8 5 0 = 98 by decide, show l8 5 1 = 97 by decide, show l8 5 2 = 114 by decide, show l8 5 3 = 0 by decide, show l8 5 4 = 0 by decide, show l8 5 5 = 0 by decide, show l8 5 6 = 0 by decide, show l8 5 7 = 0 by decide, show nI (100 + 5) = 105 by decide] at e
  exact e
theorem word_6 {B Sz t p q : Nat} {w : Nat → Int32} {I I0 J : mm_T} (hY : BY B Sz t w I0 J) (h : tk_ B Sz w p q I J) (h30 : J 9 0 30 = 0) : f_X9_isWord fu J (109 : Int32) (111 : Int32) (111 : Int32) (100 : Int32) (0 : Int32) (0 : Int32) (0 : Int32) (0 : Int32) = some (b01 (decide (I 3 0 6 = 106))) := by
  have e := word_k hY h h30 (k := 6) (by decide) (by decide)
  rw [show l8 6 0 = 109 by decide, show l8 6 1 = 111 by decide, show l8 6 2 = 111 by decide, show l8 6 3 = 100 by decide, show l8 6 4 = 0 by decide, show l8 6 5 = 0 by decide, show l8 6 6 = 0 by decide, show l8 6 7 = 0 by decide, show nI (100 + 6) = 106 by decide] at e
  exact e
theorem word_7 {B Sz t p q : Nat} {w : Nat → Int32} {I I0 J : mm_T} (hY : BY B Sz t w I0 J) (h : tk_ B Sz w p q I J) (h30 : J 9 0 30 = 0) : f_X9_isWord fu J (98 : Int32) (101 : Int32) (97 : Int32) (114 : Int32) (115 : Int32) (0 : Int32) (0 : Int32) (0 : Int32) = some (b01 (decide (I 3 0 6 = 107))) := by
  have e := word_k hY h h30 (k := 7) (by decide) (by decide)
  rw [show l8 7 0 = 98 by decide, show l8 7 1 = 101 by decide, show l8 7 2 = 97 by decide, show l8 7 3 = 114 by decide, show l8 7 4 = 115 by decide, show l8 7 5 = 0 by decide, show l8 7 6 = 0 by decide, show l8 7 7 = 0 by decide, show nI (100 + 7) = 107 by decide] at e
  exact e
theorem word_8 {B Sz t p q : Nat} {w : Nat → Int32} {I I0 J : mm_T} (hY : BY B Sz t w I0 J) (h : tk_ B Sz w p q I J) (h30 : J 9 0 30 = 0) : f_X9_isWord fu J (116 : Int32) (97 : Int32) (107 : Int32) (101 : Int32) (115 : Int32) (0 : Int32) (0 : Int32) (0 : Int32) = some (b01 (decide (I 3 0 6 = 108))) := by
  have e := word_k hY h h30 (k := 8) (by decide) (by decide)
  rw [show l8 8 0 = 116 by decide, show l8 8 1 = 97 by decide, show l8 8 2 = 107 by decide, show l8 8 3 = 101 by decide, show l8 8 4 = 115 by decide, show l8 8 5 = 0 by decide, show l8 8 6 = 0 by decide, show l8 8 7 = 0 by decide, show nI (100 + 8) = 108 by decide] at e
  exact e
theorem word_9 {B Sz t p q : Nat} {w : Nat → Int32} {I I0 J : mm_T} (hY : BY B Sz t w I0 J) (h : tk_ B Sz w p q I J) (h30 : J 9 0 30 = 0) : f_X9_isWord fu J (102 : Int32) (105 : Int32) (114 : Int32) (115 : Int32) (116 : Int32) (0 : Int32) (0 : Int32) (0 : Int32) = some (b01 (decide (I 3 0 6 = 109))) := by
  have e := word_k hY h h30 (k := 9) (by decide) (by decide)
  rw [show l8 9 0 = 102 by decide, show l8 9 1 = 105 by decide, show l8 9 2 = 114 by decide, show l8 9 3 = 115 by decide, show l8 9 4 = 116 by decide, show l8 9 5 = 0 by decide, show l8 9 6 = 0 by decide, show l8 9 7 = 0 by decide, show nI (100 + 9) = 109 by decide] at e
  exact e
theorem word_10 {B Sz t p q : Nat} {w : Nat → Int32} {I I0 J : mm_T} (hY : BY B Sz t w I0 J) (h : tk_ B Sz w p q I J) (h30 : J 9 0 30 = 0) : f_X9_isWord fu J (111 : Int32) (114 : Int32) (0 : Int32) (0 : Int32) (0 : Int32) (0 : Int32) (0 : Int32) (0 : Int32) = some (b01 (decide (I 3 0 6 = 110))) := by
  have e := word_k hY h h30 (k := 10) (by decide) (by decide)
  rw [show l8 10 0 = 111 by decide, show l8 10 1 = 114 by decide, show l8 10 2 = 0 by decide, show l8 10 3 = 0 by decide, show l8 10 4 = 0 by decide, show l8 10 5 = 0 by decide, show l8 10 6 = 0 by decide, show l8 10 7 = 0 by decide, show nI (100 + 10) = 110 by decide] at e
  exact e
theorem word_11 {B Sz t p q : Nat} {w : Nat → Int32} {I I0 J : mm_T} (hY : BY B Sz t w I0 J) (h : tk_ B Sz w p q I J) (h30 : J 9 0 30 = 0) : f_X9_isWord fu J (97 : Int32) (110 : Int32) (100 : Int32) (0 : Int32) (0 : Int32) (0 : Int32) (0 : Int32) (0 : Int32) = some (b01 (decide (I 3 0 6 = 111))) := by
  have e := word_k hY h h30 (k := 11) (by decide) (by decide)
  rw [show l8 11 0 = 97 by decide, show l8 11 1 = 110 by decide, show l8 11 2 = 100 by decide, show l8 11 3 = 0 by decide, show l8 11 4 = 0 by decide, show l8 11 5 = 0 by decide, show l8 11 6 = 0 by decide, show l8 11 7 = 0 by decide, show nI (100 + 11) = 111 by decide] at e
  exact e
theorem word_12 {B Sz t p q : Nat} {w : Nat → Int32} {I I0 J : mm_T} (hY : BY B Sz t w I0 J) (h : tk_ B Sz w p q I J) (h30 : J 9 0 30 = 0) : f_X9_isWord fu J (110 : Int32) (111 : Int32) (116 : Int32) (0 : Int32) (0 : Int32) (0 : Int32) (0 : Int32) (0 : Int32) = some (b01 (decide (I 3 0 6 = 112))) := by
  have e := word_k hY h h30 (k := 12) (by decide) (by decide)
  rw [show l8 12 0 = 110 by decide, show l8 12 1 = 111 by decide, show l8 12 2 = 116 by decide, show l8 12 3 = 0 by decide, show l8 12 4 = 0 by decide, show l8 12 5 = 0 by decide, show l8 12 6 = 0 by decide, show l8 12 7 = 0 by decide, show nI (100 + 12) = 112 by decide] at e
  exact e
