/-! ===== not, < and = ===== -/
theorem open_g {n B Sz t o c p q : Nat} {w a : Nat → Int32} {I J : mm_T} (h : rd_G B Sz t w a o c p q I J) (h25 : J 9 0 25 = nI q) (ho : o < 5) : ∃ p' q' I' J', f_X3_readToken fu n I = some I' ∧ f_X9_opens fu J = some (J', 1) ∧ fr_I I I' ∧ fr_J J J' ∧ q ≤ p' ∧ I' 19 = I 19 ∧ rd_G B Sz t w a (o + 1) c p' q' I' J' := by
  have h29 : J 9 0 29 = nI o := h.2.2.2.1.2.1
  obtain ⟨p', q', I', J', g1, g2, g3, g4, g5, g6, g7⟩ := adv (n := n) ((h.P h25).op (o' := o + 1))
  refine ⟨p', q', I', J', g1, ?_, g3, (fr_J.up (by decide) (by decide)).tr g4, g5, g6, g7⟩
  unfold f_X9_opens
  rw [h29, if_neg (show ¬ nI o = 5 from fun e => by have := (nI_eqM (M := 5) (by omega) (by omega)).mp e; omega), pz_lt_n, nI_1, g2, pz_bd_n]
theorem open_5 {N o : Nat} {J : mm_T} (h : J 9 0 29 = nI o) (ho : o = 5) : f_X9_opens N J = pz_bd (f_X9_fail N J) fun q => some (q, 0) := by
  unfold f_X9_opens
  rw [h, ho, if_pos (show nI 5 = 5 by decide)]
theorem nI_m1 {o : Nat} : nI (o + 1) - (1 : Int32) = nI o := nI_sub
/-- a NOT that is none: behind its first SUM -/
theorem not_tail {n B Sz t o h d dr : Nat} {w a : Nat → Int32} (sub : rd_L B Sz t w a o h (fun I => f_C3 fu n d 0 I (nI 3) (nI o)) (fun J => f_M9e fu dr 2 J)) {c0 p0 c p q : Nat} {x : Int32} {I J : mm_T} (hG : rd_G B Sz t w a o c p q I J) (hcp : c ≤ p) (hcc : c + p0 ≤ p + c0) (hS : SEG (I 19 0) a c0 c x (h + 1)) :
    ∃ I' J' v, f_X3_readLevel_L55 fu n (f_C3 fu n d) (nI 2) (nI o) fu I (nI 2) (nI o) 1 0 = some I' ∧ (pz_bd (f_X9_isSign fu J 60) fun q_5 => if q_5 = 0 then (pz_bd (f_X9_isSign fu J 61) fun q_7 => if q_7 = 0 then some (J, x) else f_X9_not_L77 fu (f_M9e fu dr) J x) else f_X9_not_L77 fu (f_M9e fu dr) J x) = some (J', v) ∧ fr_I I I' ∧ fr_J J J' ∧ rd_R B Sz t w a o (h + 1) c0 p0 I I' J' v := by
  have hB : B ≤ 160 := by have := hG.1.1; omega
  have hSp := hS.pos
  have hpq := hG.2.1
  have s60 : f_X9_isSign fu J 60 = _ := sign_r hG.2.2.2.2 hG.2.2.2.1.1 (s := 60) (by decide)
  have s61 : f_X9_isSign fu J 61 = _ := sign_r hG.2.2.2.2 hG.2.2.2.1.1 (s := 61) (by decide)
  by_cases hop : opb 2 (I 3 0 6) = true
  · have hv := opb_op hop
    obtain ⟨v1, v2, v3, _⟩ := op_is hv
    obtain ⟨hlt, h25⟩ := tk_ge hG.2.2.2.2 v2 v3
    obtain ⟨p1, q1, I1, J1, g1, g2, g3, g4, g5, g6, g7⟩ := adv (n := n) (hG.P h25)
    obtain ⟨I2, J2, x2, s1, s2, s3, s4, s5⟩ := sub c p1 q1 I1 J1 g7 (by omega)
    have s1 : f_C3 fu n d 0 I1 (nI (2 + 1)) (nI o) = some I2 := s1
    have s2 : f_M9e fu dr 2 J1 = some (J2, x2) := s2
    have e1 : f_X3_readLevel_L55 fu n (f_C3 fu n d) (nI 2) (nI o) (999 + 1) I (nI 2) (nI o) 1 0 = pz_bd (f_X3_emit fu n I2 (-(I 3 0 6))) fun y => some y := by
      rw [f_X3_readLevel_L55, if_neg (show ¬ (1 : Int32) ≤ 0 by decide), joins_c (by decide), hop, pz_bd_n, if_neg (show ¬ b01 true = 0 by decide), pz_lt_n, g1, pz_bd_n, nI_1, s1, pz_bd_n]
      refine congrArg (pz_bd _) (funext fun y => ?_)
      rw [pz_lt_n]
      show f_X3_readLevel_L55 fu n (f_C3 fu n d) (nI 2) (nI o) (998 + 1) y (nI 2) (nI o) 1 (0 + 1) = some y
      rw [f_X3_readLevel_L55, if_pos (show (1 : Int32) ≤ 0 + 1 by decide)]
    have e1 : f_X3_readLevel_L55 fu n (f_C3 fu n d) (nI 2) (nI o) fu I (nI 2) (nI o) 1 0 = f_X3_emit fu n I2 (-(I 3 0 6)) := e1.trans pz_bd_id
    have e2 : (pz_bd (f_X9_isSign fu J 60) fun q_5 => if q_5 = 0 then (pz_bd (f_X9_isSign fu J 61) fun q_7 => if q_7 = 0 then some (J, x) else f_X9_not_L77 fu (f_M9e fu dr) J x) else f_X9_not_L77 fu (f_M9e fu dr) J x) = some (J2, jo (I 3 0 6) x x2) := by
      have hop2 : (decide (I 3 0 6 = 60) || decide (I 3 0 6 = 61)) = true := hop
      rw [Bool.or_eq_true, decide_eq_true_eq, decide_eq_true_eq] at hop2
      rw [s60, pz_bd_n]
      by_cases c60 : I 3 0 6 = 60
      · rw [bt_ (show I 3 0 6 = nI 60 from c60), c60]
        unfold f_X9_not_L77 f_X9_not_L93
        rw [if_pos (show lg_cmp (J 9 0 28).toInt64 60 = 0 by rw [sign_s hG.2.2.2.2 (s := 60) (by decide) c60]; decide), g2, pz_bd_n, s2, pz_bd_n, pz_lt_n, jo_60, if_neg (show ¬ (1 : Int32) = 0 by decide)]
        by_cases cc : x2 ≤ x
        · rw [if_pos cc, if_pos cc]
        · rw [if_neg cc, if_neg cc]
      · have c61 : I 3 0 6 = 61 := by
          rcases hop2 with h | h
          · exact absurd h c60
          · exact h
        rw [bf_ (show ¬ I 3 0 6 = nI 60 from c60), s61, pz_bd_n, bt_ (show I 3 0 6 = nI 61 from c61), c61]
        unfold f_X9_not_L77 f_X9_not_L93
        rw [if_neg (show ¬ lg_cmp (J 9 0 28).toInt64 60 = 0 by rw [sign_s hG.2.2.2.2 (s := 61) (by decide) c61]; decide), g2, pz_bd_n, s2, pz_bd_n, pz_lt_n, jo_61, if_pos rfl]
        by_cases cc : x = x2
        · rw [if_pos cc, if_pos cc]
        · rw [if_neg cc, if_neg cc]
    rw [e1, e2]
    rcases s5 with ⟨c2, p2, q2, k1, k2, k3, k4⟩ | hF
    · have hk4 := k4.pos
      have hpq2 := k1.2.1
      rw [emit_g k1.2.2.1.2.1 (show c2 < 160 by omega)]
      have a1 : ∀ j, j < c2 → em_ I2 c2 (-(I 3 0 6)) 19 0 j = I2 19 0 j := fun j hj => by rw [em_19, upd_ne (by omega)]
      have a2 : ∀ j, j < c → em_ I2 c2 (-(I 3 0 6)) 19 0 j = I 19 0 j := fun j hj => by rw [a1 j (by omega), k3 j hj, g6]
      have hS2 : SEG (em_ I2 c2 (-(I 3 0 6)) 19 0) a c0 (c2 + 1) (jo (I 3 0 6) x x2) (h + 1) :=
        SEG.bin (hS.cong (fun _ _ => rfl) a2) (k4.cong (fun _ _ => rfl) a1) (Nat.le_refl _) v1 (by rw [em_19, upd_at])
      exact ⟨_, J2, _, rfl, rfl, (g3.tr s3).tr em_fr, g4.tr s4, Or.inl ⟨c2 + 1, p2, q2, k1.em, by omega, fun j hj => a2 j (by omega), hS2⟩⟩
    · obtain ⟨I3, f1, f2, f3⟩ := hF.em (N := fu) (n := n) (-(I 3 0 6))
      exact ⟨I3, J2, _, f1, rfl, (g3.tr s3).tr f2, g4.tr s4, Or.inr f3⟩
  · have hop' := Bool.eq_false_iff.mpr hop
    have hop2 : (decide (I 3 0 6 = 60) || decide (I 3 0 6 = 61)) = false := hop'
    rw [Bool.or_eq_false_iff] at hop2
    rw [s60, pz_bd_n, bf_ (show ¬ I 3 0 6 = nI 60 from of_decide_eq_false hop2.1), s61, pz_bd_n, bf_ (show ¬ I 3 0 6 = nI 61 from of_decide_eq_false hop2.2)]
    have z1 : f_X3_readLevel_L55 fu n (f_C3 fu n d) (nI 2) (nI o) (999 + 1) I (nI 2) (nI o) 1 0 = some I := l55_end (by decide) hop'
    exact ⟨I, J, x, z1, rfl, fr_I.rfl', fr_J.rfl', Or.inl ⟨c, p, q, hG, hcc, fun _ _ => rfl, hS⟩⟩
theorem not_sim {n B Sz t o h h2 d dr : Nat} {w a : Nat → Int32} (ho : o ≤ 5) (hh : h2 ≤ h + 1) (sub : rd_L B Sz t w a o h (fun I => f_C3 fu n (d + 1) 0 I (nI 3) (nI o)) (fun J => f_M9e fu dr 2 J)) (sub2 : o < 5 → rd_L B Sz t w a (o + 1) h2 (fun I => f_C3 fu n d 0 I (nI 2) (nI (o + 1))) (fun J => f_M9e fu dr 3 J)) :
    rd_L B Sz t w a o (h + 1) (fun I => f_C3 fu n (d + 2) 0 I (nI 2) (nI o)) (fun J => f_M9e fu (dr + 1) 3 J) := by
  intro c p q I J hG hcp
  have hB : B ≤ 160 := by have := hG.1.1; omega
  have hpq := hG.2.1
  have hw := word_12 hG.1 hG.2.2.2.2 hG.2.2.2.1.1
  show ∃ I' J' v, f_C3 fu n (d + 2) 0 I (nI 2) (nI o) = some I' ∧ f_M9e fu (dr + 1) 3 J = some (J', v) ∧ _
  rw [r9_3]
  unfold f_X9_not
  rw [hw, pz_bd_n]
  by_cases h112 : I 3 0 6 = 112
  · rw [bt_ h112, lev_not h112]
    unfold f_X3_readNot
    by_cases ho5 : o < 5
    · obtain ⟨hlt, h25⟩ := tk_ge hG.2.2.2.2 (by rw [h112]; decide) (by rw [h112]; decide)
      obtain ⟨p1, q1, I1, J1, g1, g2, g3, g4, g5, g6, g7⟩ := open_g (n := n) hG h25 ho5
      obtain ⟨I2, J2, x2, s1, s2, s3, s4, s5⟩ := sub2 ho5 c p1 q1 I1 J1 g7 (by omega)
      have s1 : f_C3 fu n d 0 I1 2 (nI (o + 1)) = some I2 := s1
      have s2 : f_M9e fu dr 3 J1 = some (J2, x2) := s2
      rw [if_pos (show nI o < 5 from (nI_lt8 (M := 5) (by omega) (by omega)).mpr ho5), g1, pz_bd_n, nI_1, s1, pz_bd_n, pz_bd_id, g2, pz_bd_n, if_neg (show ¬ (1 : Int32) = 0 by decide), s2, pz_bd_n, pz_lt_n, pz_lt_n]
      have ev : ∀ J13 : mm_T, (if x2 = 0 then some (J13, (1 : Int32)) else some (J13, 0)) = some (J13, if x2 = 0 then 1 else 0) := fun J13 => by
        by_cases e : x2 = 0
        · rw [if_pos e, if_pos e]
        · rw [if_neg e, if_neg e]
      rw [ev]
      dsimp only
      rcases s5 with ⟨c2, p2, q2, k1, k2, k3, k4⟩ | hF
      · have hk4 := k4.pos
        have hpq2 := k1.2.1
        rw [emit_g k1.2.2.1.2.1 (show c2 < 160 by omega), k1.2.2.2.1.2.1, nI_m1]
        have a1 : ∀ j, j < c2 → em_ I2 c2 (-112) 19 0 j = I2 19 0 j := fun j hj => by rw [em_19, upd_ne (by omega)]
        have hS2 : SEG (em_ I2 c2 (-112) 19 0) a c (c2 + 1) (if x2 = 0 then 1 else 0) (h + 1) :=
          (SEG.not (k4.cong (fun _ _ => rfl) a1) (by rw [em_19, upd_at])).mono hh
        exact ⟨_, _, _, rfl, rfl, (g3.tr s3).tr em_fr, (g4.tr s4).tr (fr_J.up (by decide) (by decide)), Or.inl ⟨c2 + 1, p2, q2, k1.em.op, by omega, fun j hj => by rw [a1 j (by omega), k3 j hj, g6], hS2⟩⟩
      · obtain ⟨I3, f1, f2, f3⟩ := hF.em (N := fu) (n := n) (-112)
        exact ⟨I3, _, _, f1, rfl, (g3.tr s3).tr f2, (g4.tr s4).tr (fr_J.up (by decide) (by decide)), Or.inr (f3.op _)⟩
    · obtain ⟨I', J', f1, f2, f3, f4, _, f5⟩ := fail_g (n := n) hG (show c ≤ 160 by omega)
      rw [if_neg (show ¬ nI o < 5 from fun e => ho5 ((nI_lt8 (M := 5) (by omega) (by omega)).mp e)), f1, pz_bd_n, open_5 hG.2.2.2.1.2.1 (by omega), f2, pz_bd_n, pz_bd_n, if_pos rfl]
      exact ⟨I', J', 0, rfl, rfl, f3, f4, Or.inr f5⟩
  · rw [bf_ h112]
    obtain ⟨I1, J1, x1, s1, s2, s3, s4, s5⟩ := sub c p q I J hG hcp
    have s1 : f_C3 fu n (d + 1) 0 I (nI (2 + 1)) (nI o) = some I1 := s1
    have s2 : f_M9e fu dr 2 J = some (J1, x1) := s2
    rw [lev_lo (by decide) (fun _ => h112), s1, pz_bd_n, if_pos rfl, s2, pz_bd_n, pz_lt_n]
    rcases s5 with ⟨c2, p2, q2, k1, k2, k3, k4⟩ | hF
    · have hk4 := k4.pos
      have hpq2 := k1.2.1
      obtain ⟨I', J', v, z1, z2, z3, z4, z5⟩ := not_tail sub k1 (by omega) k2 (k4.mono (by omega))
      refine ⟨I', J', v, z1, z2, s3.tr z3, s4.tr z4, ?_⟩
      rcases z5 with ⟨c3, p3, q3, y1, y2, y3, y4⟩ | z5
      · exact Or.inl ⟨c3, p3, q3, y1, y2, fun j hj => by rw [y3 j hj, k3 j hj], y4⟩
      · exact Or.inr z5
    · have z1 : f_X3_readLevel_L55 fu n (f_C3 fu n (d + 1)) (nI 2) (nI o) (999 + 1) I1 (nI 2) (nI o) 1 0 = some I1 := l55_end (by decide) (by rw [hF.2.2.1]; exact opb_2 2 (by decide))
      rw [sign_b hF.2.2.2, pz_bd_n, if_pos rfl, sign_b hF.2.2.2, pz_bd_n, if_pos rfl]
      exact ⟨I1, J1, x1, z1, rfl, s3, s4, Or.inr hF⟩
