/-! ===== told, taken, force, feed ===== -/
theorem b01_tt : b01 true = 1 := rfl
theorem b01_ff : b01 false = 0 := rfl
theorem sim_told : sm_told Inv := by
  intro k n I J p1 p2 hk h
  have hm := h.mono
  obtain ⟨c, hc, P, S, r, tc, B, h1, H, K, T, SS, X, C⟩ := h
  obtain ⟨⟨g1, g2, g3, g4, g5, g6⟩, ⟨q1, q2, q3, q4, q5, q6⟩, hP, hS⟩ := H
  have one := x9_isOne (N := fu) (p := p1) g4 (by omega)
  have sl := x9_isSlip (N := fu) (p := p1) g6 (by omega)
  have hp := x1_hasPerson (N := fu) (n := n) (p := p1) g3 (by omega)
  have hs := x1_hasSlip (N := fu) (n := n) (p := p1) g5 (by omega)
  unfold f_X8_told f_X9_told
  by_cases c0 : 0 ≤ p2.toInt ∧ p2.toInt ≤ 5
  · have cb : inb 0 5 p2 = true := inb_iff.mpr c0
    rw [i64_0, i64_5, x9_in, pz_bd_s, cb, b01_tt, if_neg ne10]
    have hh : p2 = 0 ∨ p2 = 1 ∨ p2 = 2 ∨ p2 = 3 ∨ p2 = 4 ∨ p2 = 5 := by
      rcases i32_07 ⟨c0.1, by omega⟩ with h | h | h | h | h | h | h
      all_goals first | (exact Or.inl h) | (exact Or.inr (Or.inl h)) | (exact Or.inr (Or.inr (Or.inl h))) | (exact Or.inr (Or.inr (Or.inr (Or.inl h)))) | (exact Or.inr (Or.inr (Or.inr (Or.inr (Or.inl h))))) | (exact Or.inr (Or.inr (Or.inr (Or.inr (Or.inr h))))) | (rw [h, show (6 : Int32).toInt = 6 by decide] at c0; omega)
    rcases hh with rfl | rfl | rfl | rfl | rfl | rfl
    · by_cases c1 : inr P p1 = true
      · obtain ⟨x, hx, rfl⟩ := inr_nI (by omega) c1
        have e8 := nI_ix (j := x) (N := 8) (by omega) (by decide)
        refine ⟨I 2 x 0, J 33 0 x, ?_, ?_, (hP x hx).1, hm⟩
        · rw [if_neg (by decide), if_neg (by decide), x1_v0 g3 (by omega), pz_bd_s, c1, b01_tt, if_neg ne10]
          unfold f_X1_valueOf
          rw [x1_v0 g3 (by omega), pz_bd_s, c1, b01_tt, if_neg ne10, pz_lt_d, if_pos rfl, pz_gd_t e8, nI_cl (by omega), pz_bd_s]
          simp only [Nat.mul_zero, Nat.zero_add]
        · rw [if_neg (by decide), one, pz_bd_s, c1, b01_tt, if_neg ne10]
          unfold f_X9_told_L39
          rw [if_neg (by decide), if_pos rfl, pz_gd_t e8, nI_cl (by omega)]
      · refine ⟨-2, -2, ?_, ?_, rfl, hm⟩
        · rw [if_neg (by decide), if_neg (by decide), x1_v0 g3 (by omega), pz_bd_s, b01_f c1, if_pos z00]
        · rw [if_neg (by decide), one, pz_bd_s, b01_f c1, if_pos z00]
    · by_cases c1 : inr P p1 = true
      · obtain ⟨x, hx, rfl⟩ := inr_nI (by omega) c1
        have e8 := nI_ix (j := x) (N := 8) (by omega) (by decide)
        refine ⟨I 2 x 1, J 34 0 x, ?_, ?_, (hP x hx).2.1, hm⟩
        · rw [if_neg (by decide), if_neg (by decide), x1_v1 g3 (by omega), pz_bd_s, c1, b01_tt, if_neg ne10]
          unfold f_X1_valueOf
          rw [x1_v1 g3 (by omega), pz_bd_s, c1, b01_tt, if_neg ne10, pz_lt_d, if_neg (by decide), if_pos rfl, pz_gd_t e8, nI_cl (by omega), pz_bd_s]
          simp only [Nat.mul_zero, Nat.zero_add]
        · rw [if_neg (by decide), one, pz_bd_s, c1, b01_tt, if_neg ne10]
          unfold f_X9_told_L39
          rw [if_neg (by decide), if_neg (by decide), pz_gd_t e8, nI_cl (by omega)]
      · refine ⟨-2, -2, ?_, ?_, rfl, hm⟩
        · rw [if_neg (by decide), if_neg (by decide), x1_v1 g3 (by omega), pz_bd_s, b01_f c1, if_pos z00]
        · rw [if_neg (by decide), one, pz_bd_s, b01_f c1, if_pos z00]
    · by_cases c1 : inr S p1 = true
      · obtain ⟨x, hx, rfl⟩ := inr_nI (by omega) c1
        have e7 := nI_ix (j := x) (N := 7) (by omega) (by decide)
        refine ⟨I 6 x 1, J 36 0 x, ?_, ?_, (hS x hx).2.1, hm⟩
        · rw [if_neg (by decide), if_neg (by decide), x1_v2 g5 (by omega), pz_bd_s, c1, b01_tt, if_neg ne10]
          unfold f_X1_valueOf
          rw [x1_v2 g5 (by omega), pz_bd_s, c1, b01_tt, if_neg ne10, pz_lt_d, if_neg (by decide), if_neg (by decide), if_pos rfl, pz_gd_t e7, nI_cl (by omega), pz_bd_s]
          simp only [Nat.mul_zero, Nat.zero_add]
        · rw [if_pos (by decide), sl, pz_bd_s, c1, b01_tt, if_neg ne10]
          unfold f_X9_told_L39
          rw [if_pos (by decide), if_pos rfl, pz_gd_t e7, nI_cl (by omega)]
      · refine ⟨-2, -2, ?_, ?_, rfl, hm⟩
        · rw [if_neg (by decide), if_neg (by decide), x1_v2 g5 (by omega), pz_bd_s, b01_f c1, if_pos z00]
        · rw [if_pos (by decide), sl, pz_bd_s, b01_f c1, if_pos z00]
    · by_cases c1 : inr S p1 = true
      · obtain ⟨x, hx, rfl⟩ := inr_nI (by omega) c1
        have e7 := nI_ix (j := x) (N := 7) (by omega) (by decide)
        refine ⟨I 6 x 2, J 37 0 x, ?_, ?_, (hS x hx).2.2.1, hm⟩
        · rw [if_neg (by decide), if_neg (by decide), x1_v3 g5 (by omega), pz_bd_s, c1, b01_tt, if_neg ne10]
          unfold f_X1_valueOf
          rw [x1_v3 g5 (by omega), pz_bd_s, c1, b01_tt, if_neg ne10, pz_lt_d, if_neg (by decide), if_neg (by decide), if_neg (by decide), if_pos rfl, pz_gd_t e7, nI_cl (by omega), pz_bd_s]
          simp only [Nat.mul_zero, Nat.zero_add]
        · rw [if_pos (by decide), sl, pz_bd_s, c1, b01_tt, if_neg ne10]
          unfold f_X9_told_L39
          rw [if_pos (by decide), if_neg (by decide), if_pos rfl, pz_gd_t e7, nI_cl (by omega)]
      · refine ⟨-2, -2, ?_, ?_, rfl, hm⟩
        · rw [if_neg (by decide), if_neg (by decide), x1_v3 g5 (by omega), pz_bd_s, b01_f c1, if_pos z00]
        · rw [if_pos (by decide), sl, pz_bd_s, b01_f c1, if_pos z00]
    · by_cases c1 : inr S p1 = true
      · obtain ⟨x, hx, rfl⟩ := inr_nI (by omega) c1
        have e7 := nI_ix (j := x) (N := 7) (by omega) (by decide)
        refine ⟨I 6 x 3, J 38 0 x, ?_, ?_, (hS x hx).2.2.2.1, hm⟩
        · rw [if_neg (by decide), if_neg (by decide), x1_v4 g5 (by omega), pz_bd_s, c1, b01_tt, if_neg ne10]
          unfold f_X1_valueOf
          rw [x1_v4 g5 (by omega), pz_bd_s, c1, b01_tt, if_neg ne10, pz_lt_d, if_neg (by decide), if_neg (by decide), if_neg (by decide), if_neg (by decide), if_pos rfl, pz_gd_t e7, nI_cl (by omega), pz_bd_s]
          simp only [Nat.mul_zero, Nat.zero_add]
        · rw [if_pos (by decide), sl, pz_bd_s, c1, b01_tt, if_neg ne10]
          unfold f_X9_told_L39
          rw [if_pos (by decide), if_neg (by decide), if_neg (by decide), if_pos rfl, pz_gd_t e7, nI_cl (by omega)]
      · refine ⟨-2, -2, ?_, ?_, rfl, hm⟩
        · rw [if_neg (by decide), if_neg (by decide), x1_v4 g5 (by omega), pz_bd_s, b01_f c1, if_pos z00]
        · rw [if_pos (by decide), sl, pz_bd_s, b01_f c1, if_pos z00]
    · by_cases c1 : inr S p1 = true
      · obtain ⟨x, hx, rfl⟩ := inr_nI (by omega) c1
        have e7 := nI_ix (j := x) (N := 7) (by omega) (by decide)
        refine ⟨I 6 x 0, J 35 0 x, ?_, ?_, (hS x hx).1, hm⟩
        · rw [if_pos rfl, hs, pz_bd_s, c1, b01_tt, if_neg ne10, pz_gd_t e7, nI_cl (by omega)]
          simp only [Nat.mul_zero, Nat.zero_add]
        · rw [if_pos (by decide), sl, pz_bd_s, c1, b01_tt, if_neg ne10]
          unfold f_X9_told_L39
          rw [if_pos (by decide), if_neg (by decide), if_neg (by decide), if_neg (by decide), pz_gd_t e7, nI_cl (by omega)]
      · refine ⟨-2, -2, ?_, ?_, rfl, hm⟩
        · rw [if_pos rfl, hs, pz_bd_s, b01_f c1, if_pos z00]
        · rw [if_pos (by decide), sl, pz_bd_s, b01_f c1, if_pos z00]
  · have cb : ¬ inb 0 5 p2 = true := fun h => c0 (inb_iff.mp h)
    rw [i64_0, i64_5, x9_in, pz_bd_s, b01_f cb, if_pos z00]
    refine ⟨-2, -2, ?_, rfl, rfl, hm⟩
    rw [if_neg (fun e => c0 (by rw [e]; decide))]
    by_cases c4 : (4 : Int32) < p2
    · rw [if_pos c4]
    · rw [if_neg c4]
      have c4' : ¬ (0 ≤ p2.toInt ∧ p2.toInt ≤ 6) := by
        rw [i32_lt, show (4 : Int32).toInt = 4 by decide] at c4; omega
      rw [x1_vz c4', pz_bd_s, if_pos z00]
/-! taken -/
theorem x6_isOf_nI {N n i kk q : Nat} {I : mm_T} (hk : I 6 i 0 = nI kk) (hkk : kk < 6) (hq : q < 6) : f_X6_isOf N n I i (nI q) = some (b01 (decide (q = 0 ∨ kk = q ∨ (q = 1 ∧ kk = 3) ∨ (q = 2 ∧ (kk = 4 ∨ kk = 5))))) := by
  unfold f_X6_isOf
  rw [hk, pz_lt_d]
  have e : ∀ a b : Nat, a < 6 → b < 6 → (nI a = nI b ↔ a = b) := fun a b ha hb => nI_eqM (by omega) (by omega)
  have h : ∀ q, q < 6 → ∀ kk, kk < 6 → (if nI q = (0 : Int32) then (some (1 : Int32)) else if nI q = (1 : Int32) then (if nI kk = (1 : Int32) then (some (1 : Int32)) else (if nI kk = (3 : Int32) then (some (1 : Int32)) else (some (0 : Int32)))) else if nI q = (2 : Int32) then (if nI kk = (2 : Int32) then (some (1 : Int32)) else (if nI kk = (4 : Int32) then (some (1 : Int32)) else (if nI kk = (5 : Int32) then (some (1 : Int32)) else (some (0 : Int32))))) else (if nI kk = nI q then (some (1 : Int32)) else (some (0 : Int32)))) = some (b01 (decide (q = 0 ∨ kk = q ∨ (q = 1 ∧ kk = 3) ∨ (q = 2 ∧ (kk = 4 ∨ kk = 5))))) := by decide +kernel
  exact h q hq kk hkk
theorem x9_tk {J : mm_T} {p1 p2 : Int32} {x kk q : Nat} (cnt : Nat) (hx : x < 7) (hkk : kk < 6) (hq : q < 6) : f_X9_taken_L33 fu J p1 p2 (cnt + 4) (nI x) (nI q) (nI kk) = if q = 0 ∨ kk = q ∨ (q = 1 ∧ kk = 3) ∨ (q = 2 ∧ (kk = 4 ∨ kk = 5)) then some (J 36 0 x) else some (-13) := by
  have ei : ix_in (nI x) 7 = true := nI_ix hx (by decide)
  have ec : (nI x).toNatClampNeg = x := nI_cl (by omega)
  have n0 : nI 0 = 0 := by decide
  have n1 : nI 1 = 1 := by decide
  have n2 : nI 2 = 2 := by decide
  have n3 : nI 3 = 3 := by decide
  have n4 : nI 4 = 4 := by decide
  have n5 : nI 5 = 5 := by decide
  rcases (show kk = 0 ∨ kk = 1 ∨ kk = 2 ∨ kk = 3 ∨ kk = 4 ∨ kk = 5 by omega) with rfl | rfl | rfl | rfl | rfl | rfl <;> rcases (show q = 0 ∨ q = 1 ∨ q = 2 ∨ q = 3 ∨ q = 4 ∨ q = 5 by omega) with rfl | rfl | rfl | rfl | rfl | rfl <;> simp (decide := true) only [f_X9_taken_L33, f_X9_over, n0, n1, n2, n3, n4, n5, pz_bd_s, pz_gd_t ei, ec, if_true, if_false]
theorem fu4 : fu = 996 + 4 := rfl
theorem sim_taken : sm_taken Inv := by
  intro k n I J p1 p2 hk h
  have hm := h.mono
  obtain ⟨c, hc, P, S, r, tc, B, h1, H, K, T, SS, X, C⟩ := h
  obtain ⟨⟨g1, g2, g3, g4, g5, g6⟩, ⟨q1, q2, q3, q4, q5, q6⟩, hP, hS⟩ := H
  have sl := x9_isSlip (N := fu) (p := p1) g6 (by omega)
  have hs := x1_hasSlip (N := fu) (n := n) (p := p1) g5 (by omega)
  unfold f_X8_taken f_X9_taken
  by_cases c1 : inb 0 5 p2 = true
  · obtain ⟨a1, a2⟩ := inb_t c1
    rw [if_neg a1, if_pos (by rw [i32_le]; rw [i32_lt] at a2; omega), i64_0, i64_5, x9_in, pz_bd_s, c1, b01_tt, if_neg ne10, hs, pz_bd_s, sl, pz_bd_s]
    obtain ⟨q, hq, rfl⟩ : ∃ v, v < 6 ∧ p2 = nI v := by
      obtain ⟨j, hj, e⟩ := inr_nI (P := 6) (p := p2) (by decide) (by rw [inr_iff]; have := inb_iff.mp c1; rw [show (0 : Int32).toInt = 0 by decide, show (5 : Int32).toInt = 5 by decide] at this; omega)
      exact ⟨j, hj, e⟩
    by_cases c2 : inr S p1 = true
    · obtain ⟨x, hx, rfl⟩ := inr_nI (by omega) c2
      obtain ⟨b0, b1, b2, b3, b4, kk, hkk, b5, _⟩ := hS x hx
      have e7 := nI_ix (j := x) (N := 7) (by omega) (by decide)
      rw [c2, b01_tt, if_neg ne10, if_neg ne10, pz_gd_t e7, pz_gd_t e7, pz_gd_t e7, pz_lt_d, nI_cl (by omega), Nat.mul_zero, Nat.zero_add, x6_isOf_nI (b0.trans b5) hkk hq, pz_bd_s, b5]
      have e3 := x9_tk (J := J) (p1 := nI x) (p2 := nI q) 996 (show x < 7 by omega) hkk hq
      have e4 : f_X9_taken_L33 fu J (nI x) (nI q) fu (nI x) (nI q) (nI kk) = f_X9_taken_L33 fu J (nI x) (nI q) (996 + 4) (nI x) (nI q) (nI kk) := rfl
      rw [e4, e3]
      by_cases cc : q = 0 ∨ kk = q ∨ (q = 1 ∧ kk = 3) ∨ (q = 2 ∧ (kk = 4 ∨ kk = 5))
      · rw [if_pos cc, b01_t (decide_eq_true cc), if_neg ne10]
        exact ⟨_, _, rfl, rfl, b1, hm⟩
      · rw [if_neg cc, b01_f (fun h => cc (of_decide_eq_true h)), if_pos z00]
        exact ⟨_, _, rfl, rfl, rfl, hm⟩
    · rw [b01_f c2, if_pos z00, if_pos z00]
      exact ⟨_, _, rfl, rfl, rfl, hm⟩
  · rw [i64_0, i64_5, x9_in, pz_bd_s, b01_f c1, if_pos z00]
    rcases inb_f c1 with a | ⟨a, b⟩
    · rw [if_pos a]; exact ⟨_, _, rfl, rfl, rfl, hm⟩
    · rw [if_neg a, if_neg (by rw [i32_le]; rw [i32_lt] at b; omega)]; exact ⟨_, _, rfl, rfl, rfl, hm⟩
/-! force -/
theorem sim_force : sm_force Inv := by
  intro k n I J p1 hk h
  have hm := h.mono
  obtain ⟨c, hc, P, S, r, tc, B, h1, H, K, T, SS, X, C⟩ := h
  obtain ⟨⟨g1, g2, g3, g4, g5, g6⟩, ⟨q1, q2, q3, q4, q5, q6⟩, hP, hS⟩ := H
  have X0 := X
  obtain ⟨x1, x2, x3, x4, x5, x6⟩ := X0
  unfold f_X8_force f_X9_force
  rw [x4, x5, i64_0, x9_in, pz_bd_s]
  have ei : inb 0 (nI tc - 1) p1 = inr tc p1 := by
    unfold inb inr
    congr 1
    rw [nI_sub1 (by omega), show (0 : Int32).toInt = 0 by decide]
    exact propext ⟨fun q => ⟨q.1, by omega⟩, fun q => ⟨q.1, by omega⟩⟩
  rw [ei]
  by_cases c1 : inr tc p1 = true
  · obtain ⟨x, hx, rfl⟩ := inr_nI (by omega) c1
    rw [c1, b01_tt, if_neg ne10, if_neg (nI_pos (by omega)), if_pos (nI_lt hx (by omega)), pz_lt_d, pz_lt_d, pz_lt_d]
    unfold f_X1_follow
    rw [pz_lt_d, pz_lt_d, pz_bd_s]
    refine ⟨_, _, rfl, rfl, by rw [q3, q4], c + 1, by omega, ?_⟩
    obtain ⟨I', hI'⟩ : ∃ z, z = mm_up (mm_up I 1 0 6 (nI x)) 1 0 7 (mm_up I 1 0 6 (nI x) 1 0 7 + 1) := ⟨_, rfl⟩
    obtain ⟨J', hJ'⟩ : ∃ z, z = mm_up J 9 0 4 (nI x) := ⟨_, rfl⟩
    rw [← hI', ← hJ']
    show RC (c + 1) n I' J'
    have hIk : ∀ k, k ≠ 1 → I' k = I k := fun k a1 => by rw [hI', mm_up_ne a1, mm_up_ne a1]
    have hJk : ∀ k, k ≠ 9 → J' k = J k := fun k a => by rw [hJ', mm_up_ne a]
    have i1 : ∀ j, j ≠ 7 → j ≠ 6 → I' 1 0 j = I 1 0 j := fun j b b2 => by rw [hI', up_facts.2.2.1 j b, up_facts.2.2.1 j b2]
    have i1x : I' 1 0 6 = nI x := by rw [hI', up_facts.2.2.1 6 (by decide), up_facts.2.2.2]
    have i11 : I' 1 1 = I 1 1 := by rw [hI', mm_up_ni (by decide), mm_up_ni (by decide)]
    have i17 : I' 1 0 7 = I 1 0 7 + 1 := by rw [hI', up_facts.2.2.2, up_facts.2.2.1 7 (by decide)]
    have j9 : ∀ q, q ≠ 4 → J' 9 0 q = J 9 0 q := fun q hq => by rw [hJ', up_facts.2.2.1 q hq]
    have j9x : J' 9 0 4 = nI x := by rw [hJ', up_facts.2.2.2]
    refine RC.house (P' := P) (S' := S) (r' := x) hx ?_ ?_ T SS X C (by omega) (fun k a1 a2 a6 => hIk k a1) (fun k a9 a => hJk k a9) (fun j b1 b2 b3 b4 b5 => j9 j b1) i17
    · unfold HI
      rw [hIk 2 (by decide), hIk 6 (by decide), hJk 33 (by decide), hJk 34 (by decide), hJk 35 (by decide), hJk 36 (by decide), hJk 37 (by decide), hJk 38 (by decide), j9 9 (by decide), j9 14 (by decide), j9 15 (by decide), j9 16 (by decide), j9x]
      exact ⟨⟨g1, g2, by rw [i1 2 (by decide) (by decide)]; exact g3, g4, by rw [i1 3 (by decide) (by decide)]; exact g5, g6⟩, ⟨by rw [i1 4 (by decide) (by decide)]; exact q1, by rw [i1 5 (by decide) (by decide)]; exact q2, i1x, rfl, q5, q6⟩, hP, hS⟩
    · exact K.to (Nat.le_refl tc) (Nat.le_refl S) (by rw [hIk 8 (by decide)]) (fun j _ _ => by rw [i11]) (fun p j => by rw [hIk 2 (by decide)]) (fun s j => by rw [hIk 6 (by decide)]) (j9 52 (by decide)) (j9 53 (by decide)) (j9 54 (by decide)) (j9 55 (by decide)) (j9 56 (by decide)) (by rw [hJk 45 (by decide)]) (by rw [hJk 46 (by decide)]) (fun s hs => by rw [hJk 35 (by decide)])
  · rw [b01_f c1, if_pos z00]
    refine ⟨(I, -2), (J, -2), ?_, rfl, rfl, hm⟩
    rcases inr_not.mp c1 with a | a
    · rw [if_pos (by rw [i32_lt]; exact a)]
    · by_cases c0 : p1 < 0
      · rw [if_pos c0]
      · rw [if_neg c0, if_neg (by rw [i32_lt, nI_int (by omega)]; omega)]
/-! feed -/
theorem sim_feed : sm_feed Inv := by
  intro k n I J p1 hk h
  have hm := h.mono
  obtain ⟨c, hc, P, S, r, tc, B, h1, H, K, T, SS, X, C⟩ := h
  have T0 := T
  obtain ⟨t1, t2, t3, t4⟩ := T0
  unfold f_X8_feed f_X9_feed
  rw [i64_0, i64_255, x9_in, pz_bd_s]
  by_cases c1 : inb 0 255 p1 = true
  · obtain ⟨a1, a2⟩ := inb_t c1
    rw [c1, b01_tt, if_neg ne10, if_neg a1, if_pos (by rw [i32_le]; rw [i32_lt] at a2; omega)]
    unfold f_X3_add
    rw [t2, t3]
    by_cases cB : B = 160
    · subst cB
      rw [if_neg (by decide), if_pos (by decide), pz_bd_s, if_pos rfl]
      exact ⟨_, _, rfl, rfl, rfl, hm⟩
    · have hB : B < 160 := by omega
      obtain ⟨v, hv, rfl⟩ : ∃ v, v < 256 ∧ p1 = nI v := by
        obtain ⟨j, hj, e⟩ := inr_nI (P := 256) (p := p1) (by decide) (by rw [inr_iff]; have := inb_iff.mp c1; rw [show (0 : Int32).toInt = 0 by decide, show (255 : Int32).toInt = 255 by decide] at this; omega)
        exact ⟨j, hj, e⟩
      rw [if_pos (show nI B < (160 : Int32) from nI_lt (b := 160) hB (by decide)), if_neg (show ¬ nI B = (160 : Int32) from fun e => cB ((nI_eqM (M := 160) (by omega) (by decide)).mp e)), pz_gd_t (nI_ix hB (by decide)), pz_gd_t (nI_ix hB (by decide)), nI_cl (by omega), pz_lt_d, pz_lt_d, pz_lt_d, pz_lt_d, pz_bd_s, mm_up_ne (show (3 : Nat) ≠ 18 by decide), mm_up_ne (show (9 : Nat) ≠ 32 by decide), t2, t3, nI_1, if_neg ne10]
      obtain ⟨I', hI'⟩ : ∃ z, z = mm_up (mm_up I 18 0 B (nI v)) 3 0 1 (nI (B + 1)) := ⟨_, rfl⟩
      obtain ⟨J', hJ'⟩ : ∃ z, z = mm_up (mm_up J 32 0 B (nI v)) 9 0 6 (nI (B + 1)) := ⟨_, rfl⟩
      rw [← hI', ← hJ']
      have hIk : ∀ k, k ≠ 3 → k ≠ 18 → I' k = I k := fun k a b => by rw [hI', mm_up_ne a, mm_up_ne b]
      have hJk : ∀ k, k ≠ 9 → k ≠ 32 → J' k = J k := fun k a b => by rw [hJ', mm_up_ne a, mm_up_ne b]
      have j9 : ∀ q, q ≠ 6 → J' 9 0 q = J 9 0 q := fun q hq => by rw [hJ', up_facts.2.2.1 q hq, mm_up_ne (by decide)]
      have i31 : I' 3 0 1 = nI (B + 1) := by rw [hI', up_facts.2.2.2]
      have j96 : J' 9 0 6 = nI (B + 1) := by rw [hJ', up_facts.2.2.2]
      refine ⟨(I', I' 3 0 1), (J', J' 9 0 6), rfl, rfl, by rw [i31, j96], c, by omega, ?_⟩
      show RC c n I' J'
      refine ⟨P, S, r, tc, B + 1, h1, ?_, ?_, ⟨by omega, i31, j96, fun j hj => ?_⟩, SS.to (hIk 26 (by decide) (by decide)) (hIk 5 (by decide) (by decide)) (hIk 27 (by decide) (by decide)) (hJk 47 (by decide) (by decide)) (hJk 48 (by decide) (by decide)) (hJk 49 (by decide) (by decide)) (hJk 50 (by decide) (by decide)), X.to (by rw [hIk 8 (by decide) (by decide)]) (j9 3 (by decide)) (hIk 20 (by decide) (by decide)) (hIk 7 (by decide) (by decide)) (hIk 28 (by decide) (by decide)) (hJk 30 (by decide) (by decide)) (hJk 31 (by decide) (by decide)), ?_⟩
      · unfold HI
        rw [hIk 1 (by decide) (by decide), hIk 2 (by decide) (by decide), hIk 6 (by decide) (by decide), hJk 33 (by decide) (by decide), hJk 34 (by decide) (by decide), hJk 35 (by decide) (by decide), hJk 36 (by decide) (by decide), hJk 37 (by decide) (by decide), hJk 38 (by decide) (by decide), j9 9 (by decide), j9 14 (by decide), j9 15 (by decide), j9 16 (by decide), j9 4 (by decide)]
        exact H
      · exact K.to (Nat.le_refl tc) (Nat.le_refl S) (by rw [hIk 8 (by decide) (by decide)]) (fun j _ _ => by rw [hIk 1 (by decide) (by decide)]) (fun p j => by rw [hIk 2 (by decide) (by decide)]) (fun s j => by rw [hIk 6 (by decide) (by decide)]) (j9 52 (by decide)) (j9 53 (by decide)) (j9 54 (by decide)) (j9 55 (by decide)) (j9 56 (by decide)) (by rw [hJk 45 (by decide) (by decide)]) (by rw [hJk 46 (by decide) (by decide)]) (fun s hs => by rw [hJk 35 (by decide) (by decide)])
      · by_cases hjB : j = B
        · subst hjB
          have e1 : I' 18 0 j = nI v := by rw [hI', mm_up_ne (by decide), up_facts.2.2.2]
          have e2 : J' 32 0 j = nI v := by rw [hJ', mm_up_ne (by decide), up_facts.2.2.2]
          rw [e1, e2]; exact ⟨rfl, v, hv, rfl⟩
        · have e1 : I' 18 0 j = I 18 0 j := by rw [hI', mm_up_ne (by decide), up_facts.2.2.1 j hjB]
          have e2 : J' 32 0 j = J 32 0 j := by rw [hJ', mm_up_ne (by decide), up_facts.2.2.1 j hjB]
          rw [e1, e2]; exact t4 j (by omega)
      · exact C.to (by rw [hIk 1 (by decide) (by decide)]) (hIk 4 (by decide) (by decide)) (fun j _ _ => by rw [hIk 1 (by decide) (by decide)]) (fun p _ => by rw [hIk 2 (by decide) (by decide)]) (fun s _ => by rw [hIk 6 (by decide) (by decide)]) (by rw [hIk 7 (by decide) (by decide)]) (by rw [hIk 28 (by decide) (by decide)]) (hIk 22 (by decide) (by decide)) (hIk 23 (by decide) (by decide)) (hIk 24 (by decide) (by decide)) (hIk 25 (by decide) (by decide))
  · rw [b01_f c1, if_pos z00]
    rcases inb_f c1 with a | ⟨a, b⟩
    · rw [if_pos a]; exact ⟨_, _, rfl, rfl, rfl, hm⟩
    · rw [if_neg a, if_neg (by rw [i32_le]; rw [i32_lt] at b; omega)]; exact ⟨_, _, rfl, rfl, rfl, hm⟩
