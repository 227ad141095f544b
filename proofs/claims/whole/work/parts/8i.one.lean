/-! ===== names, numbers, what is in brackets ===== -/
theorem name_y {B Sz t p q : Nat} {w : Nat → Int32} {I I0 J : mm_T} (hY : BY B Sz t w I0 J) (h : tk_ B Sz w p q I J) (h30 : J 9 0 30 = 0) : ∀ j, j < 6 → I 3 0 6 = nI (101 + j) → f_X9_name fu J = some (J, J 9 0 (17 + j)) := by
  intro j hj e
  rcases (by omega : j = 0 ∨ j = 1 ∨ j = 2 ∨ j = 3 ∨ j = 4 ∨ j = 5) with x | x | x | x | x | x <;> subst x
  · have e : I 3 0 6 = 101 := e
    unfold f_X9_name
    rw [word_1 hY h h30, pz_bd_n, bt_ e]
  · have e : I 3 0 6 = 102 := e
    unfold f_X9_name
    rw [word_1 hY h h30, pz_bd_n, bf_ (show ¬ I 3 0 6 = 101 by rw [e]; decide), word_2 hY h h30, pz_bd_n, bt_ e]
  · have e : I 3 0 6 = 103 := e
    unfold f_X9_name
    rw [word_1 hY h h30, pz_bd_n, bf_ (show ¬ I 3 0 6 = 101 by rw [e]; decide), word_2 hY h h30, pz_bd_n, bf_ (show ¬ I 3 0 6 = 102 by rw [e]; decide), word_3 hY h h30, pz_bd_n, bt_ e]
  · have e : I 3 0 6 = 104 := e
    unfold f_X9_name
    rw [word_1 hY h h30, pz_bd_n, bf_ (show ¬ I 3 0 6 = 101 by rw [e]; decide), word_2 hY h h30, pz_bd_n, bf_ (show ¬ I 3 0 6 = 102 by rw [e]; decide), word_3 hY h h30, pz_bd_n, bf_ (show ¬ I 3 0 6 = 103 by rw [e]; decide), word_4 hY h h30, pz_bd_n, bt_ e]
  · have e : I 3 0 6 = 105 := e
    unfold f_X9_name
    rw [word_1 hY h h30, pz_bd_n, bf_ (show ¬ I 3 0 6 = 101 by rw [e]; decide), word_2 hY h h30, pz_bd_n, bf_ (show ¬ I 3 0 6 = 102 by rw [e]; decide), word_3 hY h h30, pz_bd_n, bf_ (show ¬ I 3 0 6 = 103 by rw [e]; decide), word_4 hY h h30, pz_bd_n, bf_ (show ¬ I 3 0 6 = 104 by rw [e]; decide), word_5 hY h h30, pz_bd_n, bt_ e]
  · have e : I 3 0 6 = 106 := e
    unfold f_X9_name
    rw [word_1 hY h h30, pz_bd_n, bf_ (show ¬ I 3 0 6 = 101 by rw [e]; decide), word_2 hY h h30, pz_bd_n, bf_ (show ¬ I 3 0 6 = 102 by rw [e]; decide), word_3 hY h h30, pz_bd_n, bf_ (show ¬ I 3 0 6 = 103 by rw [e]; decide), word_4 hY h h30, pz_bd_n, bf_ (show ¬ I 3 0 6 = 104 by rw [e]; decide), word_5 hY h h30, pz_bd_n, bf_ (show ¬ I 3 0 6 = 105 by rw [e]; decide), word_6 hY h h30, pz_bd_n, bt_ e]
theorem name_n {B Sz t p q : Nat} {w : Nat → Int32} {I I0 J : mm_T} (hY : BY B Sz t w I0 J) (h : tk_ B Sz w p q I J) (h30 : J 9 0 30 = 0) (hn : ∀ j, j < 6 → ¬ I 3 0 6 = nI (101 + j)) : f_X9_name fu J = pz_bd (f_X9_fail fu J) fun q => some (q, 0) := by
  unfold f_X9_name
  rw [word_1 hY h h30, pz_bd_n, bf_ (show ¬ I 3 0 6 = 101 from hn 0 (by decide)), word_2 hY h h30, pz_bd_n, bf_ (show ¬ I 3 0 6 = 102 from hn 1 (by decide)), word_3 hY h h30, pz_bd_n, bf_ (show ¬ I 3 0 6 = 103 from hn 2 (by decide)), word_4 hY h h30, pz_bd_n, bf_ (show ¬ I 3 0 6 = 104 from hn 3 (by decide)), word_5 hY h h30, pz_bd_n, bf_ (show ¬ I 3 0 6 = 105 from hn 4 (by decide)), word_6 hY h h30, pz_bd_n, bf_ (show ¬ I 3 0 6 = 106 from hn 5 (by decide))]
theorem one_plain {N n : Nat} {rc : Nat → mm_T → Int32 → Int32 → Option mm_T} {I : mm_T} {o v : Int32} (e : I 3 0 6 = v) (h3 : ¬ v = 3) (hn : f_X3_isName N v = some 0) (h45 : ¬ v = 45) (h40 : ¬ v = 40) : f_X3_readOne N n rc I o = f_X3_fail N n I := by
  unfold f_X3_readOne f_X3_readOne_L83
  rw [e, if_neg h3, hn, pz_bd_n, if_pos rfl, if_neg h45, if_neg h40, pz_bd_id]
theorem isname_n : ∀ k, k < 13 → (k = 0 ∨ 6 < k) → (if wt k < 101 then some (0 : Int32) else (if 106 < wt k then some 0 else some 1)) = some 0 ∧ ¬ wt k = 3 ∧ ¬ wt k = 45 ∧ ¬ wt k = 40 ∧ ∀ j, j < 6 → ¬ wt k = nI (101 + j) := by decide
theorem isname_s : ∀ s, s ∈ sgs → (if nI s < 101 then some (0 : Int32) else (if 106 < nI s then some 0 else some 1)) = some 0 ∧ ¬ nI s = 3 := by decide
theorem isname_y : ∀ j, j < 6 → (if nI (101 + j) < 101 then some (0 : Int32) else (if 106 < nI (101 + j) then some 0 else some 1)) = some 1 ∧ ¬ nI (101 + j) = 3 ∧ ¬ nI (101 + j) = 45 ∧ ¬ nI (101 + j) = 40 ∧ ¬ nI (101 + j) = 1 ∧ ¬ nI (101 + j) = 2 := by decide
theorem one_sim {n B Sz t o h h1 h0 d dr : Nat} {w a : Nat → Int32} (ho : o ≤ 5) (hh1 : h1 ≤ h) (hh0 : h0 ≤ h) (hh : 1 ≤ h)
    (sub1 : o < 5 → rd_L B Sz t w a (o + 1) h1 (fun I => f_C3 fu n d 2 I (nI (o + 1)) 0) (fun J => f_M9e fu dr 0 J))
    (sub0 : o < 5 → rd_L B Sz t w a (o + 1) h0 (fun I => f_C3 fu n d 0 I (nI 0) (nI (o + 1))) (fun J => f_M9e fu dr 5 J)) :
    rd_L B Sz t w a o h (fun I => f_X3_readOne fu n (f_C3 fu n d) I (nI o)) (fun J => f_M9e fu (dr + 1) 0 J) := by
  intro c p q I J hG hcp
  have hB : B ≤ 160 := by have := hG.1.1; omega
  have hpq := hG.2.1
  have htk := hG.2.2.2.2
  have h30 := hG.2.2.2.1.1
  have h29 := hG.2.2.2.1.2.1
  have s45 : f_X9_isSign fu J 45 = _ := sign_r htk h30 (s := 45) (by decide)
  have s40 : f_X9_isSign fu J 40 = _ := sign_r htk h30 (s := 40) (by decide)
  show ∃ I' J' v, f_X3_readOne fu n (f_C3 fu n d) I (nI o) = some I' ∧ f_M9e fu (dr + 1) 0 J = some (J', v) ∧ _
  have bad : ∀ (x y : Option mm_T) (z : Option (mm_T × Int32)), x = f_X3_fail fu n I → y = f_X9_fail fu J → (z = pz_bd y fun q => some (q, 0)) → ∃ I' J' v, x = some I' ∧ z = some (J', v) ∧ fr_I I I' ∧ fr_J J J' ∧ rd_R B Sz t w a o h c p I I' J' v := by
    intro x y z hx hy hz
    obtain ⟨I', J', f1, f2, f3, f4, _, f5⟩ := fail_g (n := n) hG (show c ≤ 160 by omega)
    refine ⟨I', J', 0, by rw [hx, f1], ?_, f3, f4, Or.inr f5⟩
    rw [hz, hy, f2, pz_bd_n]
  rw [r9_0]
  unfold f_X9_atom
  rw [s45, pz_bd_n]
  by_cases c45 : I 3 0 6 = 45
  · rw [bt_ (show I 3 0 6 = nI 45 from c45)]
    have e1 : f_X3_readOne fu n (f_C3 fu n d) I (nI o) = if 5 ≤ nI o then f_X3_fail fu n I else pz_bd (f_X3_readToken fu n I) fun q_6 => pz_bd (f_C3 fu n d 2 q_6 (nI o + 1) 0) fun q_7 => f_X3_emit fu n q_7 (-4) := by
      unfold f_X3_readOne f_X3_isName f_X3_readOne_L83
      rw [c45, if_neg (show ¬ (45 : Int32) = 3 by decide), if_pos (show (45 : Int32) < 101 by decide), pz_bd_n, if_pos rfl, if_pos rfl, if_neg (show ¬ (45 : Int32) = 40 by decide), pz_bd_id]
      by_cases e : 5 ≤ nI o
      · rw [if_pos e, if_pos e]
      · rw [if_neg e, if_neg e]
        refine congrArg (pz_bd _) (funext fun y => congrArg (pz_bd _) (funext fun z => ?_))
        rw [pz_bd_id]
    rw [e1]
    by_cases ho5 : o < 5
    · obtain ⟨hlt, h25⟩ := tk_ge htk (by rw [c45]; decide) (by rw [c45]; decide)
      obtain ⟨p1, q1, I1, J1, g1, g2, g3, g4, g5, g6, g7⟩ := open_g (n := n) hG h25 ho5
      obtain ⟨I2, J2, x2, s1, s2, s3, s4, s5⟩ := sub1 ho5 c p1 q1 I1 J1 g7 (by omega)
      have s1 : f_C3 fu n d 2 I1 (nI (o + 1)) 0 = some I2 := s1
      have s2 : f_M9e fu dr 0 J1 = some (J2, x2) := s2
      rw [if_neg (show ¬ 5 ≤ nI o by rw [i32_le, nI_int (by omega), show (5 : Int32).toInt = 5 by decide]; omega), g1, pz_bd_n, nI_1, s1, pz_bd_n, g2, pz_bd_n, if_neg (show ¬ (1 : Int32) = 0 by decide), s2, pz_bd_n, pz_lt_n, pz_lt_n]
      dsimp only
      rcases s5 with ⟨c2, p2, q2, k1, k2, k3, k4⟩ | hF
      · have hk4 := k4.pos
        have hpq2 := k1.2.1
        rw [emit_g k1.2.2.1.2.1 (show c2 < 160 by omega), k1.2.2.2.1.2.1, nI_m1]
        have a1 : ∀ j, j < c2 → em_ I2 c2 (-4) 19 0 j = I2 19 0 j := fun j hj => by rw [em_19, upd_ne (by omega)]
        have hS2 : SEG (em_ I2 c2 (-4) 19 0) a c (c2 + 1) (-x2) h :=
          (SEG.neg (k4.cong (fun _ _ => rfl) a1) (by rw [em_19, upd_at])).mono hh1
        exact ⟨_, _, _, rfl, rfl, (g3.tr s3).tr em_fr, (g4.tr s4).tr (fr_J.up (by decide) (by decide)), Or.inl ⟨c2 + 1, p2, q2, k1.em.op, by omega, fun j hj => by rw [a1 j (by omega), k3 j hj, g6], hS2⟩⟩
      · obtain ⟨I3, f1, f2, f3⟩ := hF.em (N := fu) (n := n) (-4)
        exact ⟨I3, _, _, f1, rfl, (g3.tr s3).tr f2, (g4.tr s4).tr (fr_J.up (by decide) (by decide)), Or.inr (f3.op _)⟩
    · rw [if_pos (show 5 ≤ nI o by rw [i32_le, nI_int (by omega), show (5 : Int32).toInt = 5 by decide]; omega), open_5 h29 (by omega)]
      obtain ⟨I', J', f1, f2, f3, f4, _, f5⟩ := fail_g (n := n) hG (show c ≤ 160 by omega)
      rw [f1, f2, pz_bd_n, pz_bd_n, if_pos rfl]
      exact ⟨I', J', 0, rfl, rfl, f3, f4, Or.inr f5⟩
  rw [bf_ (show ¬ I 3 0 6 = nI 45 from c45), s40, pz_bd_n]
  by_cases c40 : I 3 0 6 = 40
  · rw [bt_ (show I 3 0 6 = nI 40 from c40)]
    have e1 : f_X3_readOne fu n (f_C3 fu n d) I (nI o) = if 5 ≤ nI o then f_X3_fail fu n I else pz_bd (f_X3_readToken fu n I) fun q_17 => pz_bd (f_C3 fu n d 0 q_17 0 (nI o + 1)) fun q_18 => f_X3_pass fu n q_18 41 := by
      unfold f_X3_readOne f_X3_isName f_X3_readOne_L83
      rw [c40, if_neg (show ¬ (40 : Int32) = 3 by decide), if_pos (show (40 : Int32) < 101 by decide), pz_bd_n, if_pos rfl, if_neg (show ¬ (40 : Int32) = 45 by decide), if_pos rfl, pz_bd_id]
      by_cases e : 5 ≤ nI o
      · rw [if_pos e, if_pos e]
      · rw [if_neg e, if_neg e]
        exact congrArg (pz_bd _) (funext fun y => congrArg (pz_bd _) (funext fun z => rfl))
    rw [e1]
    by_cases ho5 : o < 5
    · obtain ⟨hlt, h25⟩ := tk_ge htk (by rw [c40]; decide) (by rw [c40]; decide)
      obtain ⟨p1, q1, I1, J1, g1, g2, g3, g4, g5, g6, g7⟩ := open_g (n := n) hG h25 ho5
      obtain ⟨I2, J2, x2, s1, s2, s3, s4, s5⟩ := sub0 ho5 c p1 q1 I1 J1 g7 (by omega)
      have s1 : f_C3 fu n d 0 I1 0 (nI (o + 1)) = some I2 := s1
      have s2 : f_M9e fu dr 5 J1 = some (J2, x2) := s2
      rw [if_neg (show ¬ 5 ≤ nI o by rw [i32_le, nI_int (by omega), show (5 : Int32).toInt = 5 by decide]; omega), g1, pz_bd_n, nI_1, s1, pz_bd_n, g2, pz_bd_n, if_neg (show ¬ (1 : Int32) = 0 by decide), s2, pz_bd_n, pz_lt_n]
      unfold f_X3_pass f_X9_atom_L71
      dsimp only
      rcases s5 with ⟨c2, p2, q2, k1, k2, k3, k4⟩ | hF
      · have hk4 := k4.pos
        have hpq2 := k1.2.1
        have s41 : f_X9_isSign fu J2 41 = _ := sign_r k1.2.2.2.2 k1.2.2.2.1.1 (s := 41) (by decide)
        rw [s41, pz_bd_n]
        by_cases c41 : I2 3 0 6 = 41
        · obtain ⟨hlt2, h252⟩ := tk_ge k1.2.2.2.2 (by rw [c41]; decide) (by rw [c41]; decide)
          obtain ⟨p3, q3, I3, J3, y1, y2, y3, y4, y5, y6, y7⟩ := adv (n := n) ((k1.P h252).op (o' := o))
          rw [bt_ (show I2 3 0 6 = nI 41 from c41), if_pos c41, y1, pz_bd_n, k1.2.2.2.1.2.1, nI_m1, pz_lt_n, if_pos (show mm_up J2 9 0 29 (nI o) 9 0 30 = 0 by rw [mm_get, if_neg (by omega)]; exact k1.2.2.2.1.1), y2, pz_bd_n]
          exact ⟨_, _, _, rfl, rfl, (g3.tr s3).tr y3, ((g4.tr s4).tr (fr_J.up (by decide) (by decide))).tr y4, Or.inl ⟨c2, p3, q3, y7, by omega, fun j hj => by rw [y6, k3 j hj, g6], by rw [y6]; exact k4.mono hh0⟩⟩
        · obtain ⟨I3, J3, y1, y2, y3, y4, _, y6⟩ := fail_g (n := n) k1 (show c2 ≤ 160 by omega)
          rw [bf_ (show ¬ I2 3 0 6 = nI 41 from c41), if_neg c41, y1, pz_bd_n, y2, pz_bd_n, pz_lt_n, if_neg (show ¬ mm_up J3 9 0 29 (J3 9 0 29 - 1) 9 0 30 = 0 by rw [mm_get, if_neg (by omega), y6.2.2.2]; decide)]
          exact ⟨_, _, _, rfl, rfl, (g3.tr s3).tr y3, ((g4.tr s4).tr y4).tr (fr_J.up (by decide) (by decide)), Or.inr (y6.op _)⟩
      · obtain ⟨⟨f, f1, f2, f3⟩, f4, f5, f6⟩ := id hF
        rw [if_neg (show ¬ I2 3 0 6 = 41 by rw [f5]; decide), fail_c (show f < 1000 by omega) f5 f2, pz_bd_n, sign_b f6, pz_bd_n, if_pos rfl, fail_9 f6, pz_bd_n, pz_lt_n, if_neg (show ¬ mm_up J2 9 0 29 (J2 9 0 29 - 1) 9 0 30 = 0 by rw [mm_get, if_neg (by omega), f6]; decide)]
        exact ⟨_, _, _, rfl, rfl, g3.tr s3, (g4.tr s4).tr (fr_J.up (by decide) (by decide)), Or.inr (hF.op _)⟩
    · rw [if_pos (show 5 ≤ nI o by rw [i32_le, nI_int (by omega), show (5 : Int32).toInt = 5 by decide]; omega), open_5 h29 (by omega)]
      obtain ⟨I', J', f1, f2, f3, f4, _, f5⟩ := fail_g (n := n) hG (show c ≤ 160 by omega)
      rw [f1, f2, pz_bd_n, pz_bd_n, if_pos rfl]
      exact ⟨I', J', 0, rfl, rfl, f3, f4, Or.inr f5⟩
  rw [bf_ (show ¬ I 3 0 6 = nI 40 from c40), if_pos h30]
  unfold f_X9_atom_L123
  rw [if_pos h30]
  rcases id htk with ⟨_, _, i6, j6, _⟩ | ⟨hlt, _, _, ⟨i6, j6, j5, j8, j7⟩ | ⟨s, s1, i6, j6, _, j8⟩ | ⟨_, j6, j5, k, k1, i6, _⟩ | ⟨i6, j6⟩⟩
  · rw [if_neg (by rw [j6]; decide), if_neg (by rw [j6]; decide)]
    exact bad _ _ _ (one_plain i6 (by decide) (by decide) (by decide) (by decide)) rfl rfl
  · have hc160 : c < 160 := by omega
    obtain ⟨p1, q1, I1, J1, g1, g2, g3, g4, g5, g6, g7⟩ := adv (n := n) ((hG.P j5).em (v := I 3 0 7))
    have e1 : f_X3_readOne fu n (f_C3 fu n d) I (nI o) = some I1 := by
      unfold f_X3_readOne
      rw [if_pos i6, emit_g hG.2.2.1.2.1 hc160, pz_bd_n, g1, pz_bd_n]
    have ec : I1 19 0 c = I 3 0 7 := by rw [g6, em_19, upd_at]
    have hS : SEG (I1 19 0) a c (c + 1) (I1 19 0 c) h := SEG.num (by rw [ec]; exact j7) hh
    rw [ec] at hS
    rw [e1, if_pos j6, i64_back, pz_lt_n, g2, pz_bd_n, j8]
    exact ⟨I1, J1, _, rfl, rfl, em_fr.tr g3, g4, Or.inl ⟨c + 1, p1, q1, g7, by omega, fun j hj => by rw [g6, em_19, upd_ne (by omega)], hS⟩⟩
  · obtain ⟨n1, n2⟩ := isname_s s s1
    rw [if_neg (by rw [j6]; decide), if_neg (by rw [j6]; decide)]
    exact bad _ _ _ (one_plain i6 n2 n1 (by rw [← i6]; exact c45) (by rw [← i6]; exact c40)) rfl rfl
  · rw [if_neg (by rw [j6]; decide), if_pos j6]
    by_cases hk : k = 0 ∨ 6 < k
    · obtain ⟨n1, n2, n3, n4, n5⟩ := isname_n k k1 hk
      obtain ⟨I', J', f1, f2, f3, f4, _, f5⟩ := fail_g (n := n) hG (show c ≤ 160 by omega)
      rw [name_n hG.1 htk h30 (fun j hj => by rw [i6]; exact n5 j hj), f2, pz_bd_n, pz_bd_n, pz_lt_n, if_neg (show ¬ J' 9 0 30 = 0 by rw [f5.2.2.2]; decide), one_plain i6 n2 n1 n3 n4, f1]
      exact ⟨I', J', 0, rfl, rfl, f3, f4, Or.inr f5⟩
    · obtain ⟨j, rfl⟩ : ∃ j, k = j + 1 := ⟨k - 1, by omega⟩
      have hj : j < 6 := by omega
      have i6 : I 3 0 6 = nI (101 + j) := by
        rw [i6]; unfold wt; rw [if_neg (by omega), show 100 + (j + 1) = 101 + j by omega]
      obtain ⟨n1, n2, n3, n4, n5, n6⟩ := isname_y j hj
      have hc160 : c < 160 := by omega
      obtain ⟨p1, q1, I1, J1, g1, g2, g3, g4, g5, g6, g7⟩ := adv (n := n) ((hG.P j5).em (v := -(I 3 0 6)))
      have n1 : f_X3_isName fu (nI (101 + j)) = some 1 := n1
      have e1 : f_X3_readOne fu n (f_C3 fu n d) I (nI o) = some I1 := by
        unfold f_X3_readOne
        rw [if_neg (by rw [i6]; exact n2), show f_X3_isName fu (I 3 0 6) = some 1 by rw [i6]; exact n1, pz_bd_n, if_neg (show ¬ (1 : Int32) = 0 by decide), emit_g hG.2.2.1.2.1 hc160, pz_bd_n, g1, pz_bd_n]
      have ec : I1 19 0 c = -nI (101 + j) := by rw [g6, em_19, upd_at, i6]
      rw [name_y hG.1 htk h30 j hj i6, pz_bd_n, pz_lt_n, if_pos h30, g2, pz_bd_n, e1, hG.2.2.2.1.2.2 j hj]
      exact ⟨I1, J1, _, rfl, rfl, em_fr.tr g3, g4, Or.inl ⟨c + 1, p1, q1, g7, by omega, fun j hj => by rw [g6, em_19, upd_ne (by omega)], SEG.name hj ec hh⟩⟩
  · rw [if_neg (by rw [j6]; decide), if_neg (by rw [j6]; decide)]
    exact bad _ _ _ (one_plain i6 (by decide) (by decide) (by decide) (by decide)) rfl rfl
