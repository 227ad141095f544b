/-! ===== best: both walks ===== -/
set_option maxRecDepth 100000 in
theorem full_all : ∀ S, S < 8 → ∀ cl, cl < 128 → cl < 2 ^ S → S ≤ pc cl → ∀ s, s < S → tb cl s = true := by decide +kernel
theorem skip_r {S cl : Nat} {rc : Nat → mm_T → Int32 → Int32 → Int32 → Option mm_T} {x1 x2 x3 a1 a2 a3 : Int32} {J : mm_T} (hS : S ≤ 7) (h14 : J 9 0 14 = nI S) (h39 : J 9 0 39 = nI cl) (hcl : cl < 128) (hall : ∀ s, s < S → tb cl s = true) : ∀ (e s cnt : Nat), s + e = S → e < cnt → f_X9_rows_L44 fu rc x1 x2 x3 cnt J a1 a2 a3 (nI s) = some J
  | 0, s, cnt + 1, hs, hc => by
    unfold f_X9_rows_L44
    rw [h14, if_pos (by rw [i32_le, nI_int (by omega), nI_int (by omega)]; omega)]
  | e + 1, s, cnt + 1, hs, hc => by
    unfold f_X9_rows_L44 f_X9_rows_L98
    rw [h14, if_neg (by rw [i32_le, nI_int (by omega), nI_int (by omega)]; omega), h39, bx_test cl (by omega) s (by omega), hall s (by omega), if_neg (show ¬ b01 true = 0 by decide), pz_lt_n, nI_1]
    exact skip_r hS h14 h39 hcl hall e (s + 1) cnt (by omega) (by omega)
set_option maxHeartbeats 8000000 in
theorem go_best {n r P S q : Nat} {sy : Nat → (Nat → Int32) → Int32} (hq : q < 2) : ∀ (d D f1 f2 cl th ss : Nat) (I J : mm_T) (p2 : Int32), D + d = 7 → d < f1 → d < f2 → pc cl = D → EA P S I J → ET r n sy I J → ES r P S 7 cl th ss (D + 1) I J → BQ q I J → ∃ I' J', f_C4 fu n f1 0 I (nI D) p2 = some I' ∧ f_X9_rows_L41 fu (f_M9r fu f2) (nI D) p2 (nI q) J (nI D) p2 (nI q) = some J' ∧ BQ q I' J' ∧ BI D I I' ∧ BJ D J J' ∧ RJ J J'
  | d, D, f1 + 1, f2 + 1, cl, th, ss, I, J, p2, hD, hf1, hf2, hpc, A, T, Z, B => by
    have hS := A.1.2.1
    have l2 := (Z.lt A).2.1
    have hcl := Z.2.2.1.2.2.2.1
    unfold f_C4 f_X4_goOn f_X9_rows_L41
    rw [A.1.2.2.2.2.1]
    by_cases hDS : S ≤ D
    · rw [if_neg (show ¬ nI D < nI S from fun h => by have := (nI_lt8 (by omega) (by omega)).mp h; omega)]
      exact ⟨I, J, rfl, skip_r hS A.1.2.2.2.2.2 Z.2.2.1.2.1 l2 (full_all S (by omega) cl l2 hcl (by omega)) S 0 fu (by omega) (by show S < 1000; omega), B, BI.refl, BJ.refl, RJ.refl⟩
    · rw [if_pos (show nI D < nI S from (nI_lt8 (by omega) (by omega)).mpr (by omega)), nI_1, pz_gd_t (nI_ix (by omega) (by omega)), nI_cl (by omega)]
      match d, hD, hf1, hf2 with
      | 0, hD, hf1, hf2 => omega
      | d + 1, hD, hf1, hf2 =>
      have inner : ∀ (e s cnt1 cnt2 : Nat) (I J : mm_T), s + e = S → e < cnt1 → e < cnt2 → EA P S I J → ET r n sy I J → ES r P S 7 cl th ss (D + 1) I J → BQ q I J → ∃ I' J', f_X4_goOn_L24 fu n (f_C4 fu n f1) (nI D) p2 cnt1 I (nI D) p2 (D + 1 + 1) (nI s) = some I' ∧ f_X9_rows_L44 fu (f_M9r fu (f2 + 1)) (nI D) p2 (nI q) cnt2 J (nI D) p2 (nI q) (nI s) = some J' ∧ BQ q I' J' ∧ BI D I I' ∧ BJ D J J' ∧ RJ J J' := by
        intro e
        induction e with
        | zero =>
          intro s cnt1 cnt2 I J hs hc1 hc2 A T Z B
          obtain ⟨cnt1, rfl⟩ : ∃ c, cnt1 = c + 1 := ⟨cnt1 - 1, by omega⟩
          obtain ⟨cnt2, rfl⟩ : ∃ c, cnt2 = c + 1 := ⟨cnt2 - 1, by omega⟩
          have e1 : nI S ≤ nI s := by rw [i32_le, nI_int (by omega), nI_int (by omega)]; omega
          refine ⟨I, J, ?_, ?_, B, BI.refl, BJ.refl, RJ.refl⟩
          · unfold f_X4_goOn_L24; rw [A.1.2.2.2.2.1, if_pos e1]
          · unfold f_X9_rows_L44; rw [A.1.2.2.2.2.2, if_pos e1]
        | succ e ih =>
          intro s cnt1 cnt2 I J hs hc1 hc2 A T Z B
          obtain ⟨cnt1, rfl⟩ : ∃ c, cnt1 = c + 1 := ⟨cnt1 - 1, by omega⟩
          obtain ⟨cnt2, rfl⟩ : ∃ c, cnt2 = c + 1 := ⟨cnt2 - 1, by omega⟩
          have e1 : ¬ nI S ≤ nI s := by rw [i32_le, nI_int (by omega), nI_int (by omega)]; omega
          have hor : tb (cl ||| bu 7) s = tb cl s := by rw [bx_osb cl l2 7 (by omega) s (by omega), decide_eq_false (by omega), Bool.or_false]
          have iD : ix_in (nI D) 8 = true := nI_ix (by omega) (by omega)
          unfold f_X4_goOn_L24 f_X9_rows_L44
          rw [A.1.2.2.2.2.1, A.1.2.2.2.2.2, if_neg e1, if_neg e1, pz_gd_t iD, nI_cl (by omega), was_c A Z (by omega), pz_bd_s, hor, Z.2.2.1.2.1, bx_test cl (by omega) s (by omega)]
          by_cases hb : tb cl s = true
          · have nb : ¬ b01 (tb cl s) = 0 := by rw [hb]; decide
            rw [if_neg nb, if_neg nb]
            unfold f_X4_goOn_L126 f_X9_rows_L98
            rw [pz_lt_n, pz_lt_n, nI_1]
            exact ih (s + 1) cnt1 cnt2 I J (by omega) (by omega) (by omega) A T Z B
          · have nb : b01 (tb cl s) = 0 := b01_f hb
            have hb' : tb (cl ||| bu 7) s = false := by rw [hor]; exact Bool.eq_false_iff.mpr hb
            rw [if_pos nb, if_pos nb, pz_gd_t iD]
            obtain ⟨I1, g1, g2, g3⟩ := gof_sim (n := n) (i2 := D + 1 + 1) Z T.2.1 (by omega) (by omega) (by omega)
            obtain ⟨J1, y1, y2, y3, y4⟩ := lays_sim (J := J) (D := D) (by omega)
            rw [g1, pz_bd_s, y1, pz_bd_s]
            have G1 : RJ J J1 := ⟨⟨by rw [y2 9 (by omega)], by rw [y2 9 (by omega)], by rw [y2 9 (by omega)], by rw [y2 9 (by omega)], by rw [y2 9 (by omega)], by rw [y2 9 (by omega)], by rw [y2 9 (by omega)]⟩, fun g _ => ⟨by rw [y2 39 (by omega)], by rw [y2 40 (by omega)]⟩⟩
            have BJ1 : BJ D J J1 := ⟨fun k _ h => y2 k (by omega), fun j _ => by rw [y2 9 (by omega)], y4⟩
            have BI1 : BI D I I1 := BI.ofF g3
            have Z1 : ES r P S 7 cl th ss (D + 1 + 1) I1 J1 := g2.keep (by omega) (fun _ _ => rfl) (fun _ _ => rfl) (fun _ _ => rfl) G1
            have A1 := A.evb BI1 BJ1
            have T1 := T.evb BI1 BJ1
            obtain ⟨I2, J2, th2, ss2, c1, c2, c3, c4, c5, c6, _⟩ := call_sim A1 T1 Z1 (by omega) hb'
            obtain ⟨n1, n2, n3⟩ := pc_new (n := n) (P := P) hS (by omega) hcl (show s < S by omega) hb'
            have BI2 : BI D I I2 := BI1.trans (BI.ofF c4)
            have BJ2 : BJ D J J2 := BJ1.trans (BJ.ofG c5)
            have B2 : BQ q I2 J2 := by
              obtain ⟨b1, b2, b3, b4⟩ := B
              have w : ∀ k, 22 ≤ k → k ≤ 25 → I2 k = I k := fun k k1 k2 => (c4.1 k (by omega) (by omega) (by omega)).trans (g3.1 k (by omega) (by omega) (by omega))
              have u : ∀ j, 45 ≤ j → J2 9 0 j = J 9 0 j := fun j hj => (c5.2 j (by omega)).trans (by rw [y2 9 (by omega)])
              exact ⟨by rw [w 22 (by omega) (by omega), u 46 (by omega)]; exact b1, by rw [w 23 (by omega) (by omega), u 47 (by omega)]; exact b2, by rw [w 24 (by omega) (by omega), u 48 (by omega)]; exact b3, by rw [w 25 (by omega) (by omega), u 45 (by omega)]; exact b4⟩
            rw [c1, pz_bd_s, c2, pz_bd_s]
            simp only [pz_lt_n]
            rw [show ((10 : Int32) * p2) = p2 * 10 from Int32.mul_comm _ _]
            generalize (p2 * 10 + nI s + 1) = x
            obtain ⟨I3, o1, o2⟩ := note_c (n := n) (i := D + 1 + 1) (I := I2) (x := x)
            have A2 := A.evb BI2 BJ2
            obtain ⟨J3, v1, v2, v3, v4⟩ := rows_r (D := D) A2 c3 hq B2 o2
            have BI3 : BI D I I3 := BI2.trans ⟨fun k _ _ h _ => o2.1 k h, fun k j _ h _ => by rw [o2.1 k h]⟩
            have BJ3 : BJ D J J3 := BJ2.trans ⟨fun k h _ => v2 k h, fun j h => v3 j (by omega), AB.of (v2 42 (by omega)) (v2 43 (by omega)) (v2 44 (by omega))⟩
            have R3 : RJ J2 J3 := ⟨⟨v3 32 (by omega), v3 33 (by omega), v3 34 (by omega), v3 35 (by omega), v3 36 (by omega), v3 39 (by omega), v3 40 (by omega)⟩, fun g _ => ⟨by rw [v2 39 (by omega)], by rw [v2 40 (by omega)]⟩⟩
            have Z3 : ES r P S 7 (sb cl s) th2 ss2 (D + 1 + 1) I3 J3 := c3.keep (by omega) (fun _ _ => by rw [o2.1 0 (by omega)]) (fun _ _ => by rw [o2.1 11 (by omega)]) (fun _ _ => by rw [o2.1 12 (by omega)]) R3
            obtain ⟨I4, J4, w1, w2, w3, w4, w5, w6⟩ := go_best hq d (D + 1) f1 f2 (sb cl s) th2 ss2 I3 J3 x (by omega) (by omega) (by omega) (by omega) (A.evb BI3 BJ3) (T.evb BI3 BJ3) Z3 v4
            have AS4 : AS D J J4 := (y3.to (AB.of (c5.1 42 (by decide) (by decide)) (c5.1 43 (by decide) (by decide)) (c5.1 44 (by decide) (by decide)))).to (AB.trans (AB.of (v2 42 (by omega)) (v2 43 (by omega)) (v2 44 (by omega))) w5.2.2)
            obtain ⟨J5, k1, k2, k3, k4⟩ := back_sim (J0 := J) (J := J4) (D := D) (by omega) AS4
            have BI5 : BI D I I4 := BI3.trans w4.le
            have BJ5 : BJ D J J5 := BJ3.trans (BJ.trans ⟨w5.1, w5.2.1, w5.2.2.le⟩ ⟨fun k h h2 => k2 k h (by omega) (by omega), fun j h => k3 j (by omega), AB.of (k2 42 (by omega) (by omega) (by omega)) (k2 43 (by omega) (by omega) (by omega)) (k2 44 (by omega) (by omega) (by omega))⟩)
            have Z5 : ES r P S 7 cl th ss (D + 1) I4 J5 := Z.keep (by omega) (fun j _ => by rw [BI5.2 0 (D + 1) (by omega) (by omega) (by omega)]) (fun g _ => by rw [BI5.2 11 (D + 1) (by omega) (by omega) (by omega)]) (fun g _ => by rw [BI5.2 12 (D + 1) (by omega) (by omega) (by omega)]) k4
            have B5 : BQ q I4 J5 := by
              obtain ⟨b1, b2, b3, b4⟩ := w3
              exact ⟨by rw [k3 46 (by omega)]; exact b1, by rw [k3 47 (by omega)]; exact b2, by rw [k3 48 (by omega)]; exact b3, by rw [k3 45 (by omega)]; exact b4⟩
            obtain ⟨I', J', u1, u2, u3, u4, u5, u6⟩ := ih (s + 1) cnt1 cnt2 I4 J5 (by omega) (by omega) (by omega) (A.evb BI5 BJ5) (T.evb BI5 BJ5) Z5 B5
            refine ⟨I', J', ?_, ?_, u3, BI5.trans u4, BJ5.trans u5, k4.trans u6⟩
            · rw [o1]
              unfold f_X4_goOn_L117 f_X4_goOn_L126
              rw [nI_1, w1, pz_bd_s, pz_lt_n, nI_1]
              exact u1
            · rw [nI_1, show f_M9r fu (f2 + 1) 0 J2 (nI (D + 1)) x (nI q) = f_X9_rows fu (f_M9r fu f2) J2 (nI (D + 1)) x (nI q) from rfl, v1 _ (by omega), w2, pz_bd_s, k1, pz_bd_s]
              unfold f_X9_rows_L98
              rw [pz_lt_n, nI_1]
              exact u2
      obtain ⟨I', J', u1, u2, u3⟩ := inner S 0 fu fu I J (by omega) (by show S < 1000; omega) (by show S < 1000; omega) A T Z B
      exact ⟨I', J', u1, u2, u3⟩
