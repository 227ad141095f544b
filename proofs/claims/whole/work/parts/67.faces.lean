/-! ===== the calls that hold an evening ===== -/
def RW (J J' : mm_T) : Prop := (∀ k, k ≠ 9 → (k < 39 ∨ 44 < k) → J' k = J k) ∧ ∀ j, (j < 17 ∨ 49 < j) → J' 9 0 j = J 9 0 j
theorem RD.toW {A B : mm_T} (h : RD A B) : RW A B := ⟨fun k a b => h.1 k a (by omega), fun j a => h.2 j (by omega) (by omega)⟩
theorem RG.toW {A B : mm_T} (h : RG A B) : RW A B := h.toD.toW
theorem RW.trans {A B C : mm_T} (h : RW A B) (g : RW B C) : RW A C := ⟨fun k a b => (g.1 k a b).trans (h.1 k a b), fun j a => (g.2 j a).trans (h.2 j a)⟩
/-- what holding an evening leaves as it was -/
def EW (I I' : mm_T) : Prop := ∀ k, k ≠ 0 → (k < 10 ∨ 15 < k) → k ≠ 29 → I' k = I k
theorem RC.ev {c n : Nat} {I J I' J' : mm_T} (h : RC c n I J) (hi : EW I I') (hj : RW J J') : RC c n I' J' := by
  obtain ⟨P, S, r, tc, B, h1, H, K, T, SS, X, C⟩ := h
  have e : ∀ k, k ≠ 0 → (k < 10 ∨ 15 < k) → k ≠ 29 → I' k = I k := hi
  refine ⟨P, S, r, tc, B, h1, ?_, ?_, ?_, ?_, ?_, ?_⟩
  · unfold HI at H ⊢
    rw [e 1 (by decide) (by decide) (by decide), e 2 (by decide) (by decide) (by decide), e 6 (by decide) (by decide) (by decide), hj.2 9 (by omega), hj.2 14 (by omega), hj.2 15 (by omega), hj.2 16 (by omega), hj.2 4 (by omega), hj.1 33 (by decide) (by decide), hj.1 34 (by decide) (by decide), hj.1 35 (by decide) (by decide), hj.1 36 (by decide) (by decide), hj.1 37 (by decide) (by decide), hj.1 38 (by decide) (by decide)]
    exact H
  · exact K.to (Nat.le_refl _) (Nat.le_refl _) (by rw [e 8 (by decide) (by decide) (by decide)]) (fun j _ _ => by rw [e 1 (by decide) (by decide) (by decide)]) (fun p j => by rw [e 2 (by decide) (by decide) (by decide)]) (fun s j => by rw [e 6 (by decide) (by decide) (by decide)]) (hj.2 52 (by omega)) (hj.2 53 (by omega)) (hj.2 54 (by omega)) (hj.2 55 (by omega)) (hj.2 56 (by omega)) (by rw [hj.1 45 (by decide) (by decide)]) (by rw [hj.1 46 (by decide) (by decide)]) (fun s _ => by rw [hj.1 35 (by decide) (by decide)])
  · exact T.to (by rw [e 3 (by decide) (by decide) (by decide)]) (e 18 (by decide) (by decide) (by decide)) (hj.2 6 (by omega)) (hj.1 32 (by decide) (by decide))
  · exact SS.to (e 26 (by decide) (by decide) (by decide)) (e 5 (by decide) (by decide) (by decide)) (e 27 (by decide) (by decide) (by decide)) (hj.1 47 (by decide) (by decide)) (hj.1 48 (by decide) (by decide)) (hj.1 49 (by decide) (by decide)) (hj.1 50 (by decide) (by decide))
  · exact X.to (by rw [e 8 (by decide) (by decide) (by decide)]) (hj.2 3 (by omega)) (e 20 (by decide) (by decide) (by decide)) (e 7 (by decide) (by decide) (by decide)) (e 28 (by decide) (by decide) (by decide)) (hj.1 30 (by decide) (by decide)) (hj.1 31 (by decide) (by decide))
  · exact C.to (by rw [e 1 (by decide) (by decide) (by decide)]) (e 4 (by decide) (by decide) (by decide)) (fun j _ _ => by rw [e 1 (by decide) (by decide) (by decide)]) (fun p _ => by rw [e 2 (by decide) (by decide) (by decide)]) (fun p _ => by rw [e 6 (by decide) (by decide) (by decide)]) (by rw [e 7 (by decide) (by decide) (by decide)]) (by rw [e 28 (by decide) (by decide) (by decide)]) (e 22 (by decide) (by decide) (by decide)) (e 23 (by decide) (by decide) (by decide)) (e 24 (by decide) (by decide) (by decide)) (e 25 (by decide) (by decide) (by decide))
theorem EF.toW {i : Nat} {A B : mm_T} (h : EF i A B) : EW A B := h.1
theorem EW.trans {A B C : mm_T} (h : EW A B) (g : EW B C) : EW A C := fun k a b c => (g k a b c).trans (h k a b c)
theorem EA.evw {P S : Nat} {I J I' J' : mm_T} (h : EA P S I J) (hi : EW I I') (hj : RW J J') : EA P S I' J' := h.to (hi 1 (by decide) (by decide) (by decide)) (hi 2 (by decide) (by decide) (by decide)) (hi 6 (by decide) (by decide) (by decide)) (fun j q => hj.2 j (by omega)) (fun k q q2 => hj.1 k (by omega) (by omega))
theorem ET.evw {r n : Nat} {sy : Nat → (Nat → Int32) → Int32} {I J I' J' : mm_T} (h : ET r n sy I J) (hi : EW I I') (hj : RW J J') : ET r n sy I' J' := h.to (hi 7 (by decide) (by decide) (by decide)) (hi 28 (by decide) (by decide) (by decide)) (fun j q => hj.2 j (by omega)) (hj.1 30 (by decide) (by decide)) (hj.1 31 (by decide) (by decide))
/-- the house, its rule and the rule's text, out of what holds -/
theorem RC.op {c n : Nat} {I J : mm_T} (h : RC c n I J) : ∃ P S r sy, EA P S I J ∧ ET r n sy I J ∧ f_X8_rule fu n I = some (nI r) ∧ MR (J 9 0 15) := by
  obtain ⟨P, S, r, tc, B, h1, ⟨⟨g1, g2, g3, g4, g5, g6⟩, ⟨q1, q2, q3, q4, q5, q6⟩, hP, hS⟩, K, T, SS, ⟨x1, x2, x3, x4, x5, x6, x7⟩, C⟩ := h
  obtain ⟨sy, hsy⟩ := x7 r h1
  refine ⟨P, S, r, sy, ⟨⟨g1, g2, g3, g4, g5, g6⟩, ⟨q1, q2⟩, hP, fun s hs => ?_⟩, ⟨by omega, by omega, q4, hsy⟩, ?_, ?_⟩
  · obtain ⟨b0, b1, b2, b3, ⟨w, hw, b4⟩, kk, _, _, l, hl, b5⟩ := hS s hs
    exact ⟨b0, b1, b2, b3, w, hw, b4, l, hl, b5⟩
  · have e : I 20 0 r = nI r := x6 r h1
    unfold f_X8_rule
    rw [q3, pz_gd_t (nI_ix (by omega) (by omega)), nI_cl (by omega), e, pz_gd_t (decide_eq_true (nI_neg1 (by omega)))]
  · exact ⟨q5, q6⟩
theorem rule_ev {n : Nat} {I I' : mm_T} (h : EW I I') : f_X8_rule fu n I' = f_X8_rule fu n I := by
  unfold f_X8_rule
  rw [h 1 (by decide) (by decide) (by decide), h 20 (by decide) (by decide) (by decide)]
theorem Inv.ev {k n : Nat} {I J I' J' : mm_T} (h : Inv k n I J) (hi : EW I I') (hj : RW J J') : Inv (k + 6) n I' J' := by
  obtain ⟨c, h1, h2⟩ := h
  exact ⟨c, by omega, h2.ev hi hj⟩
theorem left_sim {r P S a cl th ss i : Nat} {I J : mm_T} (A : EA P S I J) (Z : ES r P S a cl th ss i I J) : f_X9_leftMany fu J = some (nI (P - pc th)) := by
  obtain ⟨l1, l2, l3⟩ := Z.lt A
  unfold f_X9_leftMany
  rw [Z.2.1.2.1, bx_bits th l1, pz_bd_s, A.1.2.2.2.1, nI_subn (bx_pcP th l1 P (by have := A.1.1; omega) Z.2.1.2.2.1)]
theorem tell_sim {n r P S a cl th ss i t : Nat} {I J : mm_T} (A : EA P S I J) (Z : ES r P S a cl th ss i I J) (ht : t < 6) : ∃ x, f_X0_answer fu n I i (nI t) = some x ∧ f_X9_tells fu J (nI t) = some x := by
  have hl := left_sim A Z
  obtain ⟨⟨z1, z10, z11, z12, z14⟩, ⟨z15, y35, zth, z13⟩, _⟩ := Z
  unfold f_X0_answer f_X9_tells
  rw [pz_lt_n]
  rcases (by omega : t = 0 ∨ t = 1 ∨ t = 2 ∨ t = 3 ∨ t = 4 ∨ t = 5) with h | h | h | h | h | h <;> subst h
  · rw [if_pos (show nI 0 = (0 : Int32) from rfl), if_neg (show ¬ (3 : Int32) ≤ nI 0 by decide), if_pos (show nI 0 = (0 : Int32) from rfl), z12]; exact ⟨_, rfl, rfl⟩
  · rw [if_neg (show ¬ nI 1 = (0 : Int32) by decide), if_pos (show nI 1 = (1 : Int32) from rfl), if_neg (show ¬ (3 : Int32) ≤ nI 1 by decide), if_neg (show ¬ nI 1 = (0 : Int32) by decide), if_pos (show nI 1 = (1 : Int32) from rfl), hl, pz_bd_s, z13]; exact ⟨_, rfl, rfl⟩
  · rw [if_neg (show ¬ nI 2 = (0 : Int32) by decide), if_neg (show ¬ nI 2 = (1 : Int32) by decide), if_pos (show nI 2 = (2 : Int32) from rfl), if_neg (show ¬ (3 : Int32) ≤ nI 2 by decide), if_neg (show ¬ nI 2 = (0 : Int32) by decide), if_neg (show ¬ nI 2 = (1 : Int32) by decide), z14]; exact ⟨_, rfl, rfl⟩
  · rw [if_neg (show ¬ nI 3 = (0 : Int32) by decide), if_neg (show ¬ nI 3 = (1 : Int32) by decide), if_neg (show ¬ nI 3 = (2 : Int32) by decide), if_pos (show nI 3 = (3 : Int32) from rfl), if_pos (show (3 : Int32) ≤ nI 3 by decide), if_pos (show nI 3 = (3 : Int32) from rfl), z11]; exact ⟨_, rfl, rfl⟩
  · rw [if_neg (show ¬ nI 4 = (0 : Int32) by decide), if_neg (show ¬ nI 4 = (1 : Int32) by decide), if_neg (show ¬ nI 4 = (2 : Int32) by decide), if_neg (show ¬ nI 4 = (3 : Int32) by decide), if_pos (show nI 4 = (4 : Int32) from rfl), if_pos (show (3 : Int32) ≤ nI 4 by decide), if_neg (show ¬ nI 4 = (3 : Int32) by decide), if_pos (show nI 4 = (4 : Int32) from rfl), z10]; exact ⟨_, rfl, rfl⟩
  · rw [if_neg (show ¬ nI 5 = (0 : Int32) by decide), if_neg (show ¬ nI 5 = (1 : Int32) by decide), if_neg (show ¬ nI 5 = (2 : Int32) by decide), if_neg (show ¬ nI 5 = (3 : Int32) by decide), if_neg (show ¬ nI 5 = (4 : Int32) by decide), if_pos (show nI 5 = (5 : Int32) from rfl), if_pos (show (3 : Int32) ≤ nI 5 by decide), if_neg (show ¬ nI 5 = (3 : Int32) by decide), if_neg (show ¬ nI 5 = (4 : Int32) by decide), z15, y35]; exact ⟨_, rfl, rfl⟩
/-- a bound from 0 on, in 64 bits -/
theorem in_nat {m : Nat} {m' : Int64} {x : Int32} (hm : m' = (nI m).toInt64) (h : m < 1000) : f_X9_in fu x.toInt64 (0 : Int64) m' = some (b01 (inr (m + 1) x)) := by
  rw [show (0 : Int64) = (0 : Int32).toInt64 by decide, hm, x9_in]
  congr 2
  unfold inb inr
  congr 1
  rw [show (0 : Int32).toInt = 0 by decide, nI_int (by omega)]
  exact propext ⟨fun q => ⟨q.1, by omega⟩, fun q => ⟨q.1, by omega⟩⟩
theorem inr_le {m : Nat} {x : Int32} (hm : m < 1000) (h : inr (m + 1) x = true) : ¬ x < 0 ∧ x ≤ nI m ∧ x < nI (m + 1) := by
  obtain ⟨h1, h2⟩ := inr_iff.mp h
  rw [i32_lt, i32_lt, i32_le, nI_int (by omega), nI_int (by omega), show (0 : Int32).toInt = 0 by decide]
  exact ⟨by omega, by omega, by omega⟩
theorem inr_nle {m : Nat} {x : Int32} (hm : m < 1000) (h : ¬ inr (m + 1) x = true) : x < 0 ∨ (¬ x < 0 ∧ ¬ x ≤ nI m) := by
  rcases inr_not.mp h with h | h
  · left; rw [i32_lt, show (0 : Int32).toInt = 0 by decide]; exact h
  · right; rw [i32_lt, i32_le, nI_int (by omega), show (0 : Int32).toInt = 0 by decide]; exact ⟨by omega, by omega⟩
theorem sim_evening : sm_evening Inv := by
  intro k n I J p1 p2 hk hI
  obtain ⟨c, hc, R⟩ := hI
  have hI : Inv k n I J := ⟨c, hc, R⟩
  obtain ⟨P, S, r, sy, A, T, hr, hm⟩ := R.op
  obtain ⟨v, r1, r2, r3⟩ := row_sim A T p1
  unfold f_X8_evening f_X9_evening
  rw [r1, r2, pz_bd_s, pz_bd_s, in_nat (m := 5) (by decide) (by omega)]
  cases v with
  | false => exact ⟨_, _, rfl, rfl, rfl, hI.mono⟩
  | true =>
    rw [if_neg (show ¬ b01 true = 0 by decide), if_neg (show ¬ b01 true = 0 by decide), pz_bd_s]
    by_cases h5 : inr (5 + 1) p2 = true
    · obtain ⟨w1, w2, _⟩ := inr_le (by omega) h5
      rw [h5, if_neg w1, if_pos (show p2 ≤ 5 from w2), if_neg (show ¬ b01 true = 0 by decide)]
      obtain ⟨t, ht, rfl⟩ := inr_nI (by omega) h5
      obtain ⟨I1, I', J', cl, th, ss, o1, o2, o3, o4, o5, o6, _⟩ := r3 rfl
      obtain ⟨x, x1, x2⟩ := tell_sim (n := n) (t := t) (A.ev o5 o6) o4 (by omega)
      rw [hr, pz_bd_s, o1, pz_bd_s, o2, pz_bd_s, o3, pz_bd_s, x1, x2]
      exact ⟨_, _, rfl, rfl, rfl, hI.ev o5.toW o6.toW⟩
    · rw [b01_f h5, if_pos (rfl : (0 : Int32) = 0)]
      rcases inr_nle (by omega) h5 with w | ⟨w1, w2⟩
      · rw [if_pos w]; exact ⟨_, _, rfl, rfl, rfl, hI.mono⟩
      · rw [if_neg w1, if_neg (show ¬ p2 ≤ 5 from w2)]; exact ⟨_, _, rfl, rfl, rfl, hI.mono⟩
theorem digits_L {n i c : Nat} {I : mm_T} (hc : I 0 i 7 = nI c) (h7 : c ≤ 7) : ∀ (d s cnt : Nat), s + d = c → d < cnt → f_X0_rowAsDigits_L4 fu n I i cnt (rd (I 14 i) s) (nI s) = some (rd (I 14 i) c)
  | 0, s, cnt + 1, hs, hd => by
    have : s = c := by omega
    subst this
    unfold f_X0_rowAsDigits_L4
    rw [hc, if_pos (by rw [i32_le]; exact Int.le_refl _)]
  | d + 1, s, cnt + 1, hs, hd => by
    unfold f_X0_rowAsDigits_L4
    rw [hc, if_neg (by rw [i32_le, nI_int (by omega), nI_int (by omega)]; omega), pz_gd_t (nI_ix (by omega) (by omega)), pz_lt_n, pz_lt_n, nI_cl (by omega), nI_1]
    exact digits_L hc h7 d (s + 1) cnt (by omega) (by omega)
theorem sim_desk : sm_desk Inv := by
  intro k n I J p1 hk hI
  obtain ⟨c, hc, R⟩ := hI
  have hI : Inv k n I J := ⟨c, hc, R⟩
  obtain ⟨P, S, r, sy, A, T, hr, hm⟩ := R.op
  unfold f_X8_desk f_X9_desk
  rw [in_nat (m := 6) (by decide) (by omega), pz_bd_s]
  by_cases h5 : inr (6 + 1) p1 = true
  · obtain ⟨w1, w2, _⟩ := inr_le (by omega) h5
    rw [h5, if_neg w1, if_pos (show p1 ≤ 6 from w2), if_neg (show ¬ b01 true = 0 by decide)]
    obtain ⟨t, ht, rfl⟩ := inr_nI (by omega) h5
    obtain ⟨I', J', cl, th, ss, o1, o2, o3, o4, o5, o6, _⟩ := desk_sim A T (a := 7) (Or.inr rfl)
    have A' := A.evd o4 o5
    rw [hr, pz_bd_s, show f_X8_runDesk fu n I (nI r) (-1) = some I' from o1, pz_bd_s, show f_X9_desks fu J 0 = some J' from o2, pz_bd_s]
    by_cases h6 : t = 6
    · subst h6
      have l2 := (o3.lt A').2.1
      have hd := digits_L (n := n) o3.2.2.1.2.2.1 (bx_pcP cl (by omega) 7 (by omega) (by omega)) (pc cl) 0 fu (by omega) (by have := bx_pcP cl (by omega) 7 (by omega) (by omega); show _ < 1000; omega)
      rw [if_pos (show nI 6 = (6 : Int32) from rfl)]
      refine ⟨(I', J' 9 0 49), (J', J' 9 0 49), ?_, rfl, rfl, hI.ev o4.toW o5.toW⟩
      unfold f_X0_answer f_X0_rowAsDigits
      rw [pz_lt_n, if_neg (by decide), if_neg (by decide), if_neg (by decide), if_neg (by decide), if_neg (by decide), if_neg (by decide), show f_X0_rowAsDigits_L4 fu n I' 0 fu 0 0 = _ from hd, pz_bd_s, pz_bd_s, o6]
    · obtain ⟨x, x1, x2⟩ := tell_sim (n := n) (t := t) A' o3 (by omega)
      rw [if_neg (show ¬ nI t = (6 : Int32) from fun e => h6 ((nI_eqM (M := 6) (by omega) (by omega)).mp e)), x1, x2]
      exact ⟨_, _, rfl, rfl, rfl, hI.ev o4.toW o5.toW⟩
  · rw [b01_f h5, if_pos (rfl : (0 : Int32) = 0)]
    rcases inr_nle (by omega) h5 with w | ⟨w1, w2⟩
    · rw [if_pos w]; exact ⟨_, _, rfl, rfl, rfl, hI.mono⟩
    · rw [if_neg w1, if_neg (show ¬ p1 ≤ 6 from w2)]; exact ⟨_, _, rfl, rfl, rfl, hI.mono⟩
theorem sim_wait : sm_wait Inv := by
  intro k n I J p1 hk hI
  obtain ⟨c, hc, R⟩ := hI
  have hI : Inv k n I J := ⟨c, hc, R⟩
  obtain ⟨P, S, r, sy, A, T, hr, hm⟩ := R.op
  have hS := A.1.2.1
  unfold f_X8_wait f_X9_wait
  rw [x1_hasSlip A.1.2.2.2.2.1 (by omega), x9_isSlip A.1.2.2.2.2.2 (by omega), pz_bd_s, pz_bd_s]
  by_cases h5 : inr S p1 = true
  · rw [h5, if_neg (show ¬ b01 true = 0 by decide), if_neg (show ¬ b01 true = 0 by decide)]
    obtain ⟨t, ht, rfl⟩ := inr_nI (by omega) h5
    obtain ⟨I', J', cl, th, ss, o1, o2, o3, o4, o5, o6, _⟩ := desk_sim A T (a := 7) (Or.inr rfl)
    have hw := o3.2.2.2.1
    rw [hr, pz_bd_s, show f_X8_runDesk fu n I (nI r) (-1) = some I' from o1, pz_bd_s, show f_X9_desks fu J 0 = some J' from o2, pz_bd_s, pz_gd_t (nI_ix (by omega) (by omega)), nI_cl (by omega), hw.1, bx_test ss (by have := hw.2.1; omega) t (by omega), hw.2.2 t (by omega) rfl]
    by_cases hb : tb ss t = true
    · rw [if_pos hb, if_pos (by rw [hb]; rfl), pz_gd_t (nI_ix (by omega) (by omega))]
      exact ⟨_, _, rfl, rfl, rfl, hI.ev o4.toW o5.toW⟩
    · rw [if_neg hb, if_neg (by rw [Bool.eq_false_iff.mpr hb]; decide)]
      exact ⟨_, _, rfl, rfl, rfl, hI.ev o4.toW o5.toW⟩
  · rw [b01_f h5]
    exact ⟨_, _, rfl, rfl, rfl, hI.mono⟩
theorem sim_harm : sm_harm Inv := by
  intro k n I J p1 hk hI
  obtain ⟨c, hc, R⟩ := hI
  have hI : Inv k n I J := ⟨c, hc, R⟩
  obtain ⟨P, S, r, sy, A, T, hr, hm⟩ := R.op
  have hS := A.1.2.1
  unfold f_X8_harm f_X9_harm
  rw [x1_hasSlip A.1.2.2.2.2.1 (by omega), x9_isSlip A.1.2.2.2.2.2 (by omega), pz_bd_s, pz_bd_s]
  by_cases h5 : inr S p1 = true
  · rw [h5, if_neg (show ¬ b01 true = 0 by decide), if_neg (show ¬ b01 true = 0 by decide)]
    obtain ⟨t, ht, rfl⟩ := inr_nI (by omega) h5
    obtain ⟨I', J', cl, th, ss, o1, o2, o3, o4, o5, o6, _⟩ := desk_sim A T (a := 7) (Or.inr rfl)
    have A' := A.evd o4 o5
    have T' := T.evd o4 o5
    obtain ⟨I2, J2, cl2, th2, ss2, u1, u2, u3, u4, u5, u6, _⟩ := desk_sim A' T' (a := t) (Or.inl ht)
    rw [show oa t = nI t from if_neg (by omega)] at u1
    rw [hr, pz_bd_s, show f_X8_runDesk fu n I (nI r) (-1) = some I' from o1, pz_bd_s, show f_X9_desks fu J 0 = some J' from o2, pz_bd_s, pz_lt_n, rule_ev o4.toW, hr, pz_bd_s, u1, pz_bd_s, left_sim A' o3, pz_bd_s, (bx_bu t (by omega)).1, u2, pz_bd_s, left_sim (A'.evd u4 u5) u3, pz_bd_s, o3.2.1.2.2.2, u3.2.1.2.2.2]
    exact ⟨_, _, rfl, rfl, rfl, hI.ev (o4.toW.trans u4.toW) (o5.toW.trans u5.toW)⟩
  · rw [b01_f h5]
    exact ⟨_, _, rfl, rfl, rfl, hI.mono⟩
theorem sim_coin : sm_coin Inv := by
  intro k n I J p1 hk hI
  obtain ⟨c, hc, R⟩ := hI
  have hI : Inv k n I J := ⟨c, hc, R⟩
  obtain ⟨P, S, r, sy, A, T, hr, hm⟩ := R.op
  have hS := A.1.2.1
  unfold f_X8_coin f_X9_coin
  rw [x1_hasSlip A.1.2.2.2.2.1 (by omega), x9_isSlip A.1.2.2.2.2.2 (by omega), pz_bd_s, pz_bd_s]
  by_cases h5 : inr S p1 = true
  · rw [h5, if_neg (show ¬ b01 true = 0 by decide), if_neg (show ¬ b01 true = 0 by decide)]
    obtain ⟨t, ht, rfl⟩ := inr_nI (by omega) h5
    obtain ⟨I', J', cl, th, ss, o1, o2, o3, o4, o5, o6, _⟩ := desk_sim A T (a := 7) (Or.inr rfl)
    have A' := A.evd o4 o5
    have T' := T.evd o4 o5
    obtain ⟨I1, J1, b1, b2, b3, b4, b5, _⟩ := begin_sim (n := n) (r := r) (i := 0) A' T.2.1
    have A1 := A'.ev b4 b5
    have T1 := T'.ev b4 b5
    have hn : tb (0 ||| bu 7) t = false := by
      rw [bx_osb 0 (by omega) 7 (by omega) t (by omega), decide_eq_false (by omega)]; unfold tb; rw [Nat.zero_div]; rfl
    obtain ⟨I2, J2, th2, ss2, c1, c2, c3, c4, c5, _⟩ := call_sim A1 T1 b3 ht hn
    have F2 := b4.trans c4
    have G3 : RD J' (mm_up J2 9 0 49 0) := (b5.trans c5).toD.trans ⟨fun k q _ => by rw [mm_up_ne q], fun j _ q => by rw [mm_get, if_neg (fun w => q w.2.2)]⟩
    obtain ⟨I3, J3, cl3, th3, ss3, u1, u2, u3, u4, u5, _⟩ := desk_L (sy := sy) 7 0 fu fu (sb 0 t) th2 ss2 I2 (mm_up J2 9 0 49 0) (by omega) (by show 7 < 1000; omega) (by show 7 < 1000; omega) (Nat.zero_le _) (A'.evd F2 G3) (T'.evd F2 G3) (c3.up49 0)
    unfold f_X0_callByDesk f_X9_goesOn
    simp only [pz_lt_n]
    rw [hr, pz_bd_s, show f_X8_runDesk fu n I (nI r) (-1) = some I' from o1, pz_bd_s, show f_X9_desks fu J 0 = some J' from o2, pz_bd_s, rule_ev o4.toW, hr, pz_bd_s, b1, pz_bd_s, c1, pz_bd_s, show f_X0_callByDesk_L2 fu n 0 fu I2 0 = some I3 from u1, pz_bd_s, b2, pz_bd_s, c2, pz_bd_s, show (pz_bd (f_X9_deskCalls fu (mm_up J2 9 0 49 0) 0) fun q => f_X9_goesOn_L11 fu 0 fu q.1 0 q.2) = some J3 from u2, pz_bd_s, o3.1.2.2.2.1, u3.1.2.2.2.1]
    exact ⟨_, _, rfl, rfl, rfl, hI.ev (o4.toW.trans (F2.trans u4).toW) (o5.toW.trans (G3.trans u5).toW)⟩
  · rw [b01_f h5]
    exact ⟨_, _, rfl, rfl, rfl, hI.mono⟩
