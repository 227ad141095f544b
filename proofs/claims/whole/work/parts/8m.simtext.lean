/-! ===== text(), on both sides ===== -/
def tf_9 (J : mm_T) : Option (mm_T × Int32) := pz_gd (ix_in (J 9 0 3) 6) <| pz_lt (mm_up J 31 0 (J 9 0 3).toNatClampNeg (J 9 0 6)) fun J_4 => pz_lt (mm_up J_4 9 0 6 0) fun J_5 => pz_bd (f_X9_read fu J_5 (J_5 9 0 3) 0) fun q_6 => pz_lt q_6.2 fun _ => if (q_6.1 9 0 30) = 0 then (pz_lt (mm_up q_6.1 9 0 3 ((q_6.1 9 0 3) + 1)) fun J_9 => some (J_9, ((J_9 9 0 3) - 1))) else some (q_6.1, (-100) - (q_6.1 9 0 31))
theorem copy_r {B tc : Nat} (hB : B ≤ 160) (ht : tc < 6) : ∀ (d i cnt : Nat) (J : mm_T), i + d = B → d < cnt → J 9 0 6 = nI B → J 9 0 3 = nI tc → ∃ J1, f_X9_text_L14 fu cnt J (nI i) = tf_9 J1 ∧ (∀ k, k ≠ 30 → J1 k = J k) ∧ (∀ j, i ≤ j → j < B → J1 30 0 (160 * tc + j) = J 32 0 j) ∧ ∀ x, x < 160 * tc + i → J1 30 0 x = J 30 0 x
  | 0, i, cnt + 1, J, hi, hc, h6, h3 => by
    refine ⟨J, ?_, fun _ _ => rfl, fun j _ _ => by omega, fun _ _ => rfl⟩
    rw [f_X9_text_L14, if_pos (show J 9 0 6 ≤ nI i by rw [h6, i32_le, nI_int (by omega), nI_int (by omega)]; omega)]
    rfl
  | d + 1, i, cnt + 1, J, hi, hc, h6, h3 => by
    obtain ⟨J2, hJ2⟩ : ∃ z, z = mm_up J 30 0 (160 * tc + i) (J 32 0 i) := ⟨_, rfl⟩
    have k2 : ∀ k, k ≠ 30 → J2 k = J k := fun k hk => by rw [hJ2, mm_up_ne hk]
    obtain ⟨J1, g1, g2, g3, g4⟩ := copy_r hB ht d (i + 1) cnt J2 (by omega) (by omega) (by rw [k2 9 (by decide)]; exact h6) (by rw [k2 9 (by decide)]; exact h3)
    refine ⟨J1, ?_, fun k hk => (g2 k hk).trans (k2 k hk), fun j x y => ?_, fun x hx => ?_⟩
    · rw [f_X9_text_L14, if_neg (show ¬ J 9 0 6 ≤ nI i by rw [h6, i32_le, nI_int (by omega), nI_int (by omega)]; omega), h3, nI_160, nI_add, pz_gd_t (nI_ix (by omega) (by omega)), pz_gd_t (nI_ix (by omega) (by omega)), nI_cl (by omega), nI_cl (by omega), pz_lt_n, pz_lt_n, nI_1, ← hJ2]
      exact g1
    · by_cases e : j = i
      · subst e
        rw [g4 (160 * tc + j) (by omega), hJ2, mm_get, if_pos ⟨rfl, rfl, rfl⟩]
      · rw [g3 j (by omega) y, k2 32 (by decide)]
    · rw [g4 x (by omega), hJ2, mm_get, if_neg (by omega)]
theorem RC.text {c n' P S r tc tc' B : Nat} {I J I' J' : mm_T} (h1 : r < tc) (H : HI P S r I J) (K : KI tc S I J) (SS : SI I J) (C : CA c r I) (htc : tc ≤ tc') (T' : TI 0 I' J') (X' : XI tc' n' I' J')
    (hI : ∀ k, k ≠ 3 → k ≠ 7 → k ≠ 8 → k ≠ 19 → k ≠ 20 → k ≠ 28 → k ≠ 29 → I' k = I k) (h8 : I' 8 0 2 = I 8 0 2) (h7 : I' 7 r = I 7 r) (h28 : I' 28 r = I 28 r)
    (hJ : ∀ k, k ≠ 9 → k ≠ 30 → k ≠ 31 → J' k = J k) (hJ9 : ∀ j, j ≠ 3 → j ≠ 6 → (j < 23 ∨ 31 < j) → J' 9 0 j = J 9 0 j) : RC c n' I' J' := by
  have i1 : I' 1 = I 1 := hI 1 (by decide) (by decide) (by decide) (by decide) (by decide) (by decide) (by decide)
  have i2 : I' 2 = I 2 := hI 2 (by decide) (by decide) (by decide) (by decide) (by decide) (by decide) (by decide)
  have i4 : I' 4 = I 4 := hI 4 (by decide) (by decide) (by decide) (by decide) (by decide) (by decide) (by decide)
  have i5 : I' 5 = I 5 := hI 5 (by decide) (by decide) (by decide) (by decide) (by decide) (by decide) (by decide)
  have i6 : I' 6 = I 6 := hI 6 (by decide) (by decide) (by decide) (by decide) (by decide) (by decide) (by decide)
  have i22 : I' 22 = I 22 := hI 22 (by decide) (by decide) (by decide) (by decide) (by decide) (by decide) (by decide)
  have i23 : I' 23 = I 23 := hI 23 (by decide) (by decide) (by decide) (by decide) (by decide) (by decide) (by decide)
  have i24 : I' 24 = I 24 := hI 24 (by decide) (by decide) (by decide) (by decide) (by decide) (by decide) (by decide)
  have i25 : I' 25 = I 25 := hI 25 (by decide) (by decide) (by decide) (by decide) (by decide) (by decide) (by decide)
  have i26 : I' 26 = I 26 := hI 26 (by decide) (by decide) (by decide) (by decide) (by decide) (by decide) (by decide)
  have i27 : I' 27 = I 27 := hI 27 (by decide) (by decide) (by decide) (by decide) (by decide) (by decide) (by decide)
  refine ⟨P, S, r, tc', 0, by omega, ?_, ?_, T', SS.to i26 i5 i27 (hJ 47 (by decide) (by decide) (by decide)) (hJ 48 (by decide) (by decide) (by decide)) (hJ 49 (by decide) (by decide) (by decide)) (hJ 50 (by decide) (by decide) (by decide)), X', C.to (by rw [i1]) i4 (fun j _ _ => by rw [i1]) (fun p _ => by rw [i2]) (fun s _ => by rw [i6]) h7 h28 i22 i23 i24 i25⟩
  · unfold HI
    rw [i1, i2, i6, hJ 33 (by decide) (by decide) (by decide), hJ 34 (by decide) (by decide) (by decide), hJ 35 (by decide) (by decide) (by decide), hJ 36 (by decide) (by decide) (by decide), hJ 37 (by decide) (by decide) (by decide), hJ 38 (by decide) (by decide) (by decide), hJ9 9 (by decide) (by decide) (by decide), hJ9 14 (by decide) (by decide) (by decide), hJ9 15 (by decide) (by decide) (by decide), hJ9 16 (by decide) (by decide) (by decide), hJ9 4 (by decide) (by decide) (by decide)]
    exact H
  · exact K.to htc (Nat.le_refl S) h8 (fun j _ _ => by rw [i1]) (fun p j => by rw [i2]) (fun s j => by rw [i6]) (hJ9 52 (by decide) (by decide) (by decide)) (hJ9 53 (by decide) (by decide) (by decide)) (hJ9 54 (by decide) (by decide) (by decide)) (hJ9 55 (by decide) (by decide) (by decide)) (hJ9 56 (by decide) (by decide) (by decide)) (by rw [hJ 45 (by decide) (by decide) (by decide)]) (by rw [hJ 46 (by decide) (by decide) (by decide)]) (fun s hs => by rw [hJ 35 (by decide) (by decide) (by decide)])
theorem sim_text : sm_text Inv := by
  intro k n I J hk h
  have hm := h.mono
  obtain ⟨c, hc, P, S, r, tc, B, h1, H, K, T, SS, X, C⟩ := h
  obtain ⟨x1, x2, x3, x4, x5, x6, x7⟩ := X
  have hat : md_at n tc := Or.inr ⟨x1, x2⟩
  obtain ⟨t1, t2, t3, t4⟩ := T
  by_cases c6 : tc = 6
  · refine ⟨tc, (I, -4, n), (J, -4), hat, ?_, ?_, rfl, hm⟩
    · unfold tx_f
      rw [x4, c6, if_pos (show (6 : Int32) ≤ nI 6 by decide)]
    · unfold f_X9_text
      rw [x5, c6, if_pos (show nI 6 = 6 by decide)]
  have htc : tc < 6 := by omega
  obtain ⟨J1, g1, g2, g3, g4⟩ := copy_r t1 htc B 0 fu J (by omega) (by show B < 1000; omega) t3 x5
  obtain ⟨J5, hJ5⟩ : ∃ z, z = mm_up (mm_up J1 31 0 tc (nI B)) 9 0 6 0 := ⟨_, rfl⟩
  have k5 : ∀ k, k ≠ 9 → k ≠ 30 → k ≠ 31 → J5 k = J k := fun k a b c => by rw [hJ5, mm_up_ne a, mm_up_ne c, g2 k b]
  have j5 : ∀ j, j ≠ 6 → J5 9 0 j = J 9 0 j := fun j hj => by rw [hJ5, mm_get, if_neg (fun q => hj q.2.2), mm_up_ne (by decide), g2 9 (by decide)]
  have j56 : J5 9 0 6 = 0 := by rw [hJ5, mm_get, if_pos ⟨rfl, rfl, rfl⟩]
  have j530 : J5 30 = J1 30 := by rw [hJ5, mm_up_ne (by decide), mm_up_ne (by decide)]
  have j531 : J5 31 0 tc = nI B := by rw [hJ5, mm_up_ne (by decide), mm_get, if_pos ⟨rfl, rfl, rfl⟩]
  have j531' : ∀ x, x ≠ tc → J5 31 0 x = J 31 0 x := fun x hx => by rw [hJ5, mm_up_ne (by decide), mm_get, if_neg (fun q => hx q.2.2), g2 31 (by decide)]
  have hw : ∀ j, j < B → I 18 0 j = J 32 0 j ∧ J5 30 0 (160 * tc + j) = J 32 0 j ∧ ∃ v, v < 256 ∧ J 32 0 j = nI v := fun j hj => ⟨(t4 j hj).1, by rw [j530]; exact g3 j (Nat.zero_le _) hj, (t4 j hj).2⟩
  obtain ⟨I', J', b, v, r1, r2, r3, r4, r5⟩ := read_sim (n := n) (B := B) (Sz := B) (t := tc) (part := 0) (w := J 32 0) (a := fun j => J5 9 0 (17 + j)) (I := I) (J := J5) ⟨Nat.le_refl _, t1, htc⟩ t2 hw (fun j a b => by omega) j531 (fun _ _ => rfl) (by decide)
  have e9 : f_X9_text fu J = if J' 9 0 30 = 0 then some (mm_up J' 9 0 3 (nI (tc + 1)), nI (tc + 1) - 1) else some (J', -100 - J' 9 0 31) := by
    unfold f_X9_text
    rw [if_neg (show ¬ J 9 0 3 = 6 by rw [x5]; exact fun e => c6 ((nI_eqM (M := 6) (by omega) (by omega)).mp e))]
    have g1 : f_X9_text_L14 fu fu J 0 = tf_9 J1 := g1
    have a3 : J1 9 0 3 = nI tc := by rw [g2 9 (by decide)]; exact x5
    have a6 : J1 9 0 6 = nI B := by rw [g2 9 (by decide)]; exact t3
    have a53 : J5 9 0 3 = nI tc := (j5 3 (by decide)).trans x5
    have r2 : f_X9_read fu J5 (nI tc) 0 = some (J', v) := r2
    have a33 : J' 9 0 3 = nI tc := (r4.2 3 (by decide)).trans a53
    rw [g1]
    unfold tf_9
    rw [a3, pz_gd_t (nI_ix htc (by omega)), nI_cl (by omega), a6, pz_lt_n, pz_lt_n, ← hJ5, a53, r2, pz_bd_n, pz_lt_n]
    dsimp only
    rw [a33, nI_1, pz_lt_n, show mm_up J' 9 0 3 (nI (tc + 1)) 9 0 3 = nI (tc + 1) by rw [mm_get, if_pos ⟨rfl, rfl, rfl⟩]]
  have fJ : ∀ k, k ≠ 9 → k ≠ 30 → k ≠ 31 → J' k = J k := fun k a b c => (r4.1 k a).trans (k5 k a b c)
  have fJ9 : ∀ j, j ≠ 6 → (j < 23 ∨ 31 < j) → J' 9 0 j = J 9 0 j := fun j a b => (r4.2 j b).trans (j5 j a)
  have fJ6 : J' 9 0 6 = nI 0 := (r4.2 6 (by decide)).trans j56
  have fJ30 : J' 30 = J1 30 := (r4.1 30 (by decide)).trans j530
  have fJ31 : J' 31 = J5 31 := r4.1 31 (by decide)
  have i85 : I' 8 = I 8 := r3 8 (by decide) (by decide)
  rcases r5 with ⟨i31, ⟨eb, e30, c1, c2, c3, v0, v1, v2, q1, q2, q3, q4, q5, q6, q7, q8⟩ | ⟨eb, e30, f, f1, f2, f3⟩⟩
  · subst eb
    have q5p := q5.pos
    have q6p := q6.pos
    have q7p := q7.pos
    rw [if_pos e30] at e9
    obtain ⟨I2, hI2⟩ : ∃ z, z = mm_up (mm_up (md_I I' tc) 20 0 tc (nI tc)) 8 0 5 (nI (tc + 1)) := ⟨_, rfl⟩
    have a85 : I' 8 0 5 = nI tc := by rw [i85]; exact x4
    refine ⟨tc, (I2, nI (tc + 1) - 1, n + 3), _, hat, ?_, e9, rfl, c, by omega, ?_⟩
    · unfold tx_f
      rw [if_neg (show ¬ (6 : Int32) ≤ I 8 0 5 by rw [x4, i32_le, nI_int (by omega), show (6 : Int32).toInt = 6 by decide]; omega), r1, pz_bd_n]
      dsimp only
      rw [if_neg (show ¬ (1 : Int32) = 0 by decide), a85, q4, pz_gd_t (nI_ix htc (by omega)), pz_gd_t (nI_ix q1 (by omega)), pz_gd_t (decide_eq_true (show tc < 1000 by omega)), nI_cl (by omega), nI_1, hI2]
    have m : ∀ k, k ≠ 7 → k ≠ 28 → k ≠ 29 → k ≠ 20 → k ≠ 8 → I2 k = I' k := fun k a b c d e => by
      rw [hI2, mm_up_ne e, mm_up_ne d]; unfold md_I; rw [mm_row_ne c, mm_row_ne b, mm_row_ne a]
    have m8 : ∀ j, j ≠ 5 → I2 8 0 j = I 8 0 j := fun j hj => by
      rw [hI2, mm_get, if_neg (fun q => hj q.2.2), mm_up_ne (by decide)]; unfold md_I; rw [mm_row_ne (by decide), mm_row_ne (by decide), mm_row_ne (by decide), i85]
    have m7 : ∀ x, x ≠ tc → I2 7 x = I 7 x := fun x hx => by
      rw [hI2, mm_up_ne (by decide), mm_up_ne (by decide)]; unfold md_I; rw [mm_row_ne (by decide), mm_row_ne (by decide), mm_row_ni hx, r3 7 (by decide) (by decide)]
    have m28 : ∀ x, x ≠ tc → I2 28 x = I 28 x := fun x hx => by
      rw [hI2, mm_up_ne (by decide), mm_up_ne (by decide)]; unfold md_I; rw [mm_row_ne (by decide), mm_row_ni hx, mm_row_ne (by decide), r3 28 (by decide) (by decide)]
    have n7 : I2 7 tc = md_7 I' := by
      rw [hI2, mm_up_ne (by decide), mm_up_ne (by decide)]; unfold md_I; rw [mm_row_ne (by decide), mm_row_ne (by decide), mm_row_at]
    have n28 : I2 28 tc = md_28 I' := by
      rw [hI2, mm_up_ne (by decide), mm_up_ne (by decide)]; unfold md_I; rw [mm_row_ne (by decide), mm_row_at]
    have m20 : ∀ x, x < tc + 1 → I2 20 0 x = nI x := fun x hx => by
      rw [hI2, mm_up_ne (by decide), mm_get]
      by_cases e : x = tc
      · rw [if_pos ⟨rfl, rfl, e⟩, e]
      · rw [if_neg (fun q => e q.2.2)]; unfold md_I
        rw [mm_row_ne (by decide), mm_row_ne (by decide), mm_row_ne (by decide), r3 20 (by decide) (by decide)]
        exact x6 x (by omega)
    obtain ⟨J9, hJ9⟩ : ∃ z, z = mm_up J' 9 0 3 (nI (tc + 1)) := ⟨_, rfl⟩
    show RC c (n + 3) I2 (mm_up J' 9 0 3 (nI (tc + 1)))
    rw [← hJ9]
    have w9 : ∀ k, k ≠ 9 → J9 k = J' k := fun k hk => by rw [hJ9, mm_up_ne hk]
    have w93 : ∀ j, j ≠ 3 → J9 9 0 j = J' 9 0 j := fun j hj => by rw [hJ9, mm_get, if_neg (fun q => hj q.2.2)]
    refine RC.text (tc := tc) (tc' := tc + 1) (B := B) h1 H K SS C (Nat.le_succ _) ⟨Nat.zero_le _, ?_, (w93 6 (by decide)).trans fJ6, fun j hj => absurd hj (Nat.not_lt_zero _)⟩ ⟨by omega, by omega, by omega, ?_, ?_, m20, fun t ht => ?_⟩ (fun k a3 a7 a8 a19 a20 a28 a29 => (m k a7 a28 a29 a20 a8).trans (r3 k a3 a19)) (m8 2 (by decide)) (m7 r (by omega)) (m28 r (by omega)) (fun k a b c => (w9 k a).trans (fJ k a b c)) (fun j a b c => (w93 j a).trans (fJ9 j b c))
    · rw [m 3 (by decide) (by decide) (by decide) (by decide) (by decide)]; exact i31
    · rw [hI2, mm_get, if_pos ⟨rfl, rfl, rfl⟩]
    · rw [hJ9, mm_get, if_pos ⟨rfl, rfl, rfl⟩]
    · by_cases e : t = tc
      · subst e
        refine TX.new (n := n) (B := B) (Sz := B) (t := t) (w := J 32 0) (I := I) (I' := I') ⟨Nat.le_refl _, t1, htc⟩ t2 (fun j hj => ⟨(hw j hj).1, ?_, (hw j hj).2.2⟩) (fun j a b => by omega) ?_ r1 ?_ ?_ ?_ (fun j hj => ?_)
        · rw [w9 30 (by decide), fJ30, ← j530]; exact (hw j hj).2.1
        · rw [w9 31 (by decide), fJ31, j531]
        · rw [n7]; rfl
        · rw [n7]; rfl
        · rw [n28]; rfl
        · rw [n28]; exact if_neg (by omega)
      · obtain ⟨sy, hs⟩ := x7 t (by omega)
        exact ⟨sy, hs.to (m7 t e) (m28 t e) (by rw [w9 31 (by decide), fJ31, j531' t e]) (fun j hj => by rw [w9 30 (by decide), fJ30, g4 (160 * t + j) (by omega)])⟩
  · subst eb
    rw [if_neg (by rw [e30]; decide)] at e9
    refine ⟨tc, (I', -100 - I' 3 0 10, n), _, hat, ?_, e9, ?_, c, by omega, ?_⟩
    · unfold tx_f
      rw [if_neg (show ¬ (6 : Int32) ≤ I 8 0 5 by rw [x4, i32_le, nI_int (by omega), show (6 : Int32).toInt = 6 by decide]; omega), r1, pz_bd_n]
      dsimp only
      rw [if_pos rfl]
    · show -100 - I' 3 0 10 = -100 - J' 9 0 31
      rw [f2, f3]
      by_cases e : f < B
      · rw [if_pos e]
      · rw [if_neg e, show f = B by omega]
    show RC c n I' J'
    refine RC.text (tc := tc) (tc' := tc) (B := B) h1 H K SS C (Nat.le_refl _) ⟨Nat.zero_le _, i31, fJ6, fun j hj => absurd hj (Nat.not_lt_zero _)⟩ ⟨x1, x2, x3, ?_, ?_, fun t ht => ?_, fun t ht => ?_⟩ (fun k a3 a7 a8 a19 a20 a28 a29 => r3 k a3 a19) (by rw [i85]) (by rw [r3 7 (by decide) (by decide)]) (by rw [r3 28 (by decide) (by decide)]) fJ (fun j a b c => fJ9 j b c)
    · rw [i85]; exact x4
    · exact (fJ9 3 (by decide) (by decide)).trans x5
    · rw [r3 20 (by decide) (by decide)]; exact x6 t ht
    · obtain ⟨sy, hs⟩ := x7 t ht
      exact ⟨sy, hs.to (by rw [r3 7 (by decide) (by decide)]) (by rw [r3 28 (by decide) (by decide)]) (by rw [fJ31, j531' t (by omega)]) (fun j hj => by rw [fJ30, g4 (160 * t + j) (by omega)])⟩
