/-! ===== or, and, sums, terms ===== -/
theorem jo_110 {x y : Int32} : jo 110 x y = if x = 0 then (if y = 0 then 0 else 1) else 1 := by
  unfold jo
  rw [if_neg (by decide), if_neg (by decide), if_neg (by decide), if_neg (by decide), if_neg (by decide), if_neg (by decide)]
theorem jo_111 {x y : Int32} : jo 111 x y = if x = 0 then 0 else (if y = 0 then 0 else 1) := by
  unfold jo
  rw [if_neg (by decide), if_neg (by decide), if_neg (by decide), if_neg (by decide), if_neg (by decide), if_pos rfl]
theorem jo_42 {x y : Int32} : jo 42 x y = x * y := by unfold jo; rw [if_pos rfl]
theorem jo_43 {x y : Int32} : jo 43 x y = x + y := by unfold jo; rw [if_neg (by decide), if_pos rfl]
theorem jo_45 {x y : Int32} : jo 45 x y = x - y := by unfold jo; rw [if_neg (by decide), if_neg (by decide), if_pos rfl]
theorem jo_60 {x y : Int32} : jo 60 x y = if y ≤ x then 0 else 1 := by unfold jo; rw [if_neg (by decide), if_neg (by decide), if_neg (by decide), if_pos rfl]
theorem jo_61 {x y : Int32} : jo 61 x y = if x = y then 1 else 0 := by unfold jo; rw [if_neg (by decide), if_neg (by decide), if_neg (by decide), if_neg (by decide), if_pos rfl]
theorem either_sim {n B Sz t o h d dr : Nat} {w a : Nat → Int32} (sub : rd_L B Sz t w a o h (fun I => f_C3 fu n d 0 I (nI 1) (nI o)) (fun J => f_M9e fu dr 4 J)) : rd_L B Sz t w a o (h + 1) (fun I => f_C3 fu n (d + 1) 0 I (nI 0) (nI o)) (fun J => f_M9e fu (dr + 1) 5 J) := by
  refine level_sim (L := 0) (rl := f_X9_either_L5 fu (f_M9e fu dr)) (rs := fun J => f_M9e fu dr 4 J) (by decide) (by decide) ?_ ?_ ?_ ?_ sub
  · intro cnt c p q x I J hG h
    rw [f_X9_either_L5, word_10 hG.1 hG.2.2.2.2 hG.2.2.2.1.1, pz_bd_n, bf_ (of_decide_eq_false h)]
  · intro cnt c p q x I J hG h
    have e : I 3 0 6 = 110 := of_decide_eq_true h
    rw [f_X9_either_L5, word_10 hG.1 hG.2.2.2.2 hG.2.2.2.1.1, pz_bd_n, bt_ e, e]
    refine congrArg (pz_bd _) (funext fun y => congrArg (pz_bd _) (funext fun z => ?_))
    rw [pz_lt_n, jo_110]
    unfold f_X9_either_L39 f_X9_either_L44
    by_cases hx : x = 0
    · rw [if_pos hx, if_pos hx]
      by_cases hz : z.2 = 0
      · rw [if_pos hz, if_pos hz]
      · rw [if_neg hz, if_neg hz]
    · rw [if_neg hx, if_neg hx]
  · intro cnt x J h
    rw [f_X9_either_L5, word_b h, pz_bd_n, if_pos rfl]
  · intro J
    show f_M9e fu (dr + 1) 5 J = _
    rw [r9_5]
    unfold f_X9_either
    refine congrArg (pz_bd _) (funext fun y => ?_)
    rw [pz_lt_n]
theorem both_sim {n B Sz t o h d dr : Nat} {w a : Nat → Int32} (sub : rd_L B Sz t w a o h (fun I => f_C3 fu n d 0 I (nI 2) (nI o)) (fun J => f_M9e fu dr 3 J)) : rd_L B Sz t w a o (h + 1) (fun I => f_C3 fu n (d + 1) 0 I (nI 1) (nI o)) (fun J => f_M9e fu (dr + 1) 4 J) := by
  refine level_sim (L := 1) (rl := f_X9_both_L5 fu (f_M9e fu dr)) (rs := fun J => f_M9e fu dr 3 J) (by decide) (by decide) ?_ ?_ ?_ ?_ sub
  · intro cnt c p q x I J hG h
    rw [f_X9_both_L5, word_11 hG.1 hG.2.2.2.2 hG.2.2.2.1.1, pz_bd_n, bf_ (of_decide_eq_false h)]
  · intro cnt c p q x I J hG h
    have e : I 3 0 6 = 111 := of_decide_eq_true h
    rw [f_X9_both_L5, word_11 hG.1 hG.2.2.2.2 hG.2.2.2.1.1, pz_bd_n, bt_ e, e]
    refine congrArg (pz_bd _) (funext fun y => congrArg (pz_bd _) (funext fun z => ?_))
    rw [pz_lt_n, jo_111]
    unfold f_X9_both_L44 f_X9_both_L45
    by_cases hx : x = 0
    · rw [if_pos hx, if_pos hx]
    · rw [if_neg hx, if_neg hx]
      by_cases hz : z.2 = 0
      · rw [if_pos hz, if_pos hz]
      · rw [if_neg hz, if_neg hz]
  · intro cnt x J h
    rw [f_X9_both_L5, word_b h, pz_bd_n, if_pos rfl]
  · intro J
    show f_M9e fu (dr + 1) 4 J = _
    rw [r9_4]
    unfold f_X9_both
    refine congrArg (pz_bd _) (funext fun y => ?_)
    rw [pz_lt_n]
theorem sign_s {B Sz p q : Nat} {w : Nat → Int32} {I J : mm_T} (h : tk_ B Sz w p q I J) {s : Nat} (hs : s ∈ sgs) (e : I 3 0 6 = nI s) : J 9 0 28 = nI s := by
  obtain ⟨n1, n2, n3, n4⟩ := sg_ne s hs
  rcases h with ⟨_, _, i6, j6, _⟩ | ⟨_, _, _, ⟨i6, j6, _⟩ | ⟨s', s1, i6, j6, _, j8⟩ | ⟨_, j6, _, k, k1, i6, _⟩ | ⟨i6, j6⟩⟩
  · exact absurd (i6.symm.trans e) n1
  · exact absurd (i6.symm.trans e) n3
  · rw [j8, ← i6, e]
  · exact absurd (i6.symm.trans e) (n4 k k1)
  · exact absurd (i6.symm.trans e) n2
theorem term_sim {n B Sz t o h d dr : Nat} {w a : Nat → Int32} (sub : rd_L B Sz t w a o h (fun I => f_C3 fu n d 0 I (nI 5) (nI o)) (fun J => f_M9e fu dr 0 J)) : rd_L B Sz t w a o (h + 1) (fun I => f_C3 fu n (d + 1) 0 I (nI 4) (nI o)) (fun J => f_M9e fu (dr + 1) 1 J) := by
  refine level_sim (L := 4) (rl := f_X9_term_L5 fu (f_M9e fu dr)) (rs := fun J => f_M9e fu dr 0 J) (by decide) (by decide) ?_ ?_ ?_ ?_ sub
  · intro cnt c p q x I J hG h
    have e : f_X9_isSign fu J 42 = _ := sign_r hG.2.2.2.2 hG.2.2.2.1.1 (s := 42) (by decide)
    rw [f_X9_term_L5, e, pz_bd_n, bf_ (show ¬ I 3 0 6 = nI 42 from of_decide_eq_false h)]
  · intro cnt c p q x I J hG h
    have e : f_X9_isSign fu J 42 = _ := sign_r hG.2.2.2.2 hG.2.2.2.1.1 (s := 42) (by decide)
    have e2 : I 3 0 6 = 42 := of_decide_eq_true h
    rw [f_X9_term_L5, e, pz_bd_n, bt_ (show I 3 0 6 = nI 42 from e2), e2]
    refine congrArg (pz_bd _) (funext fun y => congrArg (pz_bd _) (funext fun z => ?_))
    rw [pz_lt_n, jo_42]
  · intro cnt x J h
    rw [f_X9_term_L5, sign_b h, pz_bd_n, if_pos rfl]
  · intro J
    show f_M9e fu (dr + 1) 1 J = _
    rw [r9_1]
    unfold f_X9_term
    refine congrArg (pz_bd _) (funext fun y => ?_)
    rw [pz_lt_n]
theorem added_sim {n B Sz t o h d dr : Nat} {w a : Nat → Int32} (sub : rd_L B Sz t w a o h (fun I => f_C3 fu n d 0 I (nI 4) (nI o)) (fun J => f_M9e fu dr 1 J)) : rd_L B Sz t w a o (h + 1) (fun I => f_C3 fu n (d + 1) 0 I (nI 3) (nI o)) (fun J => f_M9e fu (dr + 1) 2 J) := by
  refine level_sim (L := 3) (rl := f_X9_added_L5 fu (f_M9e fu dr)) (rs := fun J => f_M9e fu dr 1 J) (by decide) (by decide) ?_ ?_ ?_ ?_ sub
  · intro cnt c p q x I J hG h
    have e : f_X9_isSign fu J 43 = _ := sign_r hG.2.2.2.2 hG.2.2.2.1.1 (s := 43) (by decide)
    have e' : f_X9_isSign fu J 45 = _ := sign_r hG.2.2.2.2 hG.2.2.2.1.1 (s := 45) (by decide)
    have h : (decide (I 3 0 6 = 43) || decide (I 3 0 6 = 45)) = false := h
    rw [Bool.or_eq_false_iff] at h
    rw [f_X9_added_L5, e, pz_bd_n, bf_ (show ¬ I 3 0 6 = nI 43 from of_decide_eq_false h.1), e', pz_bd_n, bf_ (show ¬ I 3 0 6 = nI 45 from of_decide_eq_false h.2)]
  · intro cnt c p q x I J hG h
    have e : f_X9_isSign fu J 43 = _ := sign_r hG.2.2.2.2 hG.2.2.2.1.1 (s := 43) (by decide)
    have e' : f_X9_isSign fu J 45 = _ := sign_r hG.2.2.2.2 hG.2.2.2.1.1 (s := 45) (by decide)
    have h : (decide (I 3 0 6 = 43) || decide (I 3 0 6 = 45)) = true := h
    rw [Bool.or_eq_true, decide_eq_true_eq, decide_eq_true_eq] at h
    rw [f_X9_added_L5, e, pz_bd_n]
    by_cases c43 : I 3 0 6 = 43
    · rw [bt_ (show I 3 0 6 = nI 43 from c43), c43]
      unfold f_X9_added_L23
      rw [if_pos (show lg_cmp (J 9 0 28).toInt64 43 = 0 by rw [sign_s hG.2.2.2.2 (s := 43) (by decide) c43]; decide)]
      unfold f_X9_added_L39 f_X9_added_L62
      refine congrArg (pz_bd _) (funext fun y => congrArg (pz_bd _) (funext fun z => ?_))
      rw [pz_lt_n, jo_43, if_neg (show ¬ (1 : Int32) = 0 by decide)]
    · have c45 : I 3 0 6 = 45 := by
        rcases h with h | h
        · exact absurd h c43
        · exact h
      rw [bf_ (show ¬ I 3 0 6 = nI 43 from c43), e', pz_bd_n, bt_ (show I 3 0 6 = nI 45 from c45), c45]
      unfold f_X9_added_L23
      rw [if_neg (show ¬ lg_cmp (J 9 0 28).toInt64 43 = 0 by rw [sign_s hG.2.2.2.2 (s := 45) (by decide) c45]; decide)]
      unfold f_X9_added_L39 f_X9_added_L62
      refine congrArg (pz_bd _) (funext fun y => congrArg (pz_bd _) (funext fun z => ?_))
      rw [pz_lt_n, jo_45, if_pos rfl]
  · intro cnt x J h
    rw [f_X9_added_L5, sign_b h, pz_bd_n, if_pos rfl, sign_b h, pz_bd_n, if_pos rfl]
  · intro J
    show f_M9e fu (dr + 1) 2 J = _
    rw [r9_2]
    unfold f_X9_added
    refine congrArg (pz_bd _) (funext fun y => ?_)
    rw [pz_lt_n]
