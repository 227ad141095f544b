/-! ===== cell, copy, slips ===== -/
theorem x9_off {z : Nat} {i : Int32} (hz : z ≤ 40) : inb 0 (nI z - 1) i = inr z i := by
  unfold inb inr
  congr 1
  rw [nI_sub1 (by omega), show (0 : Int32).toInt = 0 by decide]
  exact propext ⟨fun q => ⟨q.1, by omega⟩, fun q => ⟨q.1, by omega⟩⟩
theorem SI.put {I J I' J' : mm_T} {s i : Nat} {v : Int32} (SS : SI I J) (hs : s < 4) (hi : i < 40) (hI' : I' = mm_up I 27 s i v) (hJ' : J' = mm_up J 50 0 (40 * s + i) v) : SI I' J' := by
  intro s' hs'
  rw [hI', hJ', mm_up_ne (show (26 : Nat) ≠ 27 by decide), mm_up_ne (show (5 : Nat) ≠ 27 by decide), mm_up_ne (show (47 : Nat) ≠ 50 by decide), mm_up_ne (show (48 : Nat) ≠ 50 by decide), mm_up_ne (show (49 : Nat) ≠ 50 by decide)]
  obtain ⟨b1, b2⟩ := SS s' hs'
  refine ⟨b1, b2.imp id ?_⟩
  rintro ⟨so', z', d1, d2, d3, d4, d5, d6, d7, d8⟩
  refine ⟨so', z', d1, d2, d3, d4, d5, d6, d7, fun j hj => ?_⟩
  dsimp only
  by_cases hss : s' = s
  · subst hss
    by_cases hji : j = i
    · subst hji; rw [up_facts.2.2.2, up_facts.2.2.2]
    · rw [up_facts.2.2.1 j hji, up_facts.2.2.1 (40 * s' + j) (by omega)]; exact d8 j hj
  · rw [mm_up_ni hss, up_facts.2.2.1 (40 * s' + j) (by omega)]; exact d8 j hj
set_option maxHeartbeats 4000000 in
theorem sim_cell : sm_cell Inv := by
  intro k n I J p1 p2 p3 hk h
  have hm := h.mono
  obtain ⟨c, hc, hR⟩ := h
  have hR0 := hR
  obtain ⟨P, S, r, tc, B, h1, H, K, T, SS, X, C⟩ := hR
  unfold f_X8_cell f_X9_cell
  rw [x8_isSheet, x9_isSheet, pz_bd_s, pz_bd_s]
  by_cases c1 : inr 4 p1 = true
  · obtain ⟨s, hs, rfl⟩ := inr_nI (by decide) c1
    obtain ⟨s1, s2⟩ := SS s hs
    have e4 := nI_ix (j := s) (N := 4) hs (by decide)
    have ecl : (nI s).toNatClampNeg = s := nI_cl (by omega)
    have en : decide (¬ I 26 0 s = -1) = true := decide_eq_true s1
    rw [c1, b01_tt, if_neg ne10, if_neg ne10]
    simp only [pz_gd_t e4, ecl, pz_gd_t en]
    rcases s2 with ⟨s2, s3⟩ | ⟨so, z, d1, d2, d3, d4, d5, d6, d7, d8⟩
    · rw [s2, s3, if_pos rfl, if_pos rfl]
      exact ⟨_, _, rfl, rfl, rfl, hm⟩
    · rw [d3, d4, if_neg (nI_neg1 (by omega)), if_neg ne10, d7, i64_0, x9_in, pz_bd_s, x9_off d2, x5_holds d6 d2, pz_bd_s]
      by_cases c2 : inr z p2 = true
      · obtain ⟨i, hi, rfl⟩ := inr_nI (by omega) c2
        have hcond : decide (0 ≤ (1 : Int32).toInt ∧ 0 ≤ (nI i).toInt ∧ (nI i).toInt + (1 : Int32).toInt ≤ (z : Int)) = true := by
          rw [decide_eq_true_iff, nI_int (by omega), show (1 : Int32).toInt = 1 by decide]; omega
        rw [hcond, c2, b01_tt, if_neg ne10, if_neg ne10, d5]
        unfold f_X5_put
        rw [d4, nI_40]
        simp only [pz_gd_t (nI_ix (show i < 40 by omega) (show 40 < 2147483648 by decide)), pz_gd_t (nI_ix (show 40 * s + i < 160 by omega) (show 160 < 2147483648 by decide)), nI_cl (show i < 2147483648 by omega), nI_cl (show 40 * s + i < 2147483648 by omega), pz_lt_d]
        have fin : ∀ v : Int32, ∃ (z v1 : mm_T × Int32), some (mm_up I 27 s i v, (1 : Int32)) = some z ∧ some (mm_up J 50 0 (40 * s + i) v, (1 : Int32)) = some v1 ∧ z.2 = v1.2 ∧ Inv (k + 6) n z.1 v1.1 := fun v =>
          ⟨_, _, rfl, rfl, rfl, c, by omega, hR0.sheet (fun k a b => by dsimp only; rw [mm_up_ne b]) (fun k a => by dsimp only; rw [mm_up_ne (by omega)]) (SS.put hs (show i < 40 by omega) rfl rfl)⟩
        by_cases hs0 : nI so = 0
        · rw [if_pos hs0, if_pos hs0]; exact fin _
        · rw [if_neg hs0, if_neg hs0]
          by_cases hs1 : nI so = 1
          · rw [if_pos hs1, if_pos hs1]; exact fin _
          · rw [if_neg hs1, if_neg hs1]; exact fin _
      · have hcond : ¬ decide (0 ≤ (1 : Int32).toInt ∧ 0 ≤ p2.toInt ∧ p2.toInt + (1 : Int32).toInt ≤ (z : Int)) = true := by
          rw [decide_eq_true_iff, show (1 : Int32).toInt = 1 by decide]
          rw [inr_iff] at c2; omega
        rw [b01_f hcond, b01_f c2, if_pos z00, if_pos z00]
        exact ⟨_, _, rfl, rfl, rfl, hm⟩
  · rw [b01_f c1, if_pos z00, if_pos z00]
    exact ⟨_, _, rfl, rfl, rfl, hm⟩
/-! copy: upwards, downwards -/
theorem cp_up {p1 p2 p3 p4 p5 : Int32} {s o i j m : Nat} (hs : s < 4) (ho : o < 4) (hi : i + m ≤ 40) (hj : j + m ≤ 40) (hne : s = o → j ≤ i) : ∀ (cnt q : Nat) (J J0 : mm_T), q ≤ m → m < q + cnt → (∀ e, J 50 0 e = if 40 * o + j ≤ e ∧ e < 40 * o + j + q then J0 50 0 (40 * s + i + (e - (40 * o + j))) else J0 50 0 e) → ∃ J', f_X9_copy_L121 fu p1 p2 p3 p4 p5 cnt J (nI s) (nI i) (nI o) (nI j) (nI m) 0 (nI q) = some (J', nI m) ∧ (∀ k, k ≠ 50 → J' k = J k) ∧ (∀ e, J' 50 0 e = if 40 * o + j ≤ e ∧ e < 40 * o + j + m then J0 50 0 (40 * s + i + (e - (40 * o + j))) else J0 50 0 e) := by
  intro cnt
  induction cnt with
  | zero => intro q J J0 hq hc; omega
  | succ cnt ih =>
    intro q J J0 hq hc hJ
    rw [f_X9_copy_L121]
    by_cases hqm : q = m
    · subst hqm
      rw [if_pos (nI_le (Nat.le_refl _) (by omega))]
      exact ⟨J, rfl, fun _ _ => rfl, hJ⟩
    · rw [if_neg (nI_ge (show q < m by omega) (by omega)), if_pos rfl]
      unfold f_X9_copy_L145
      rw [nI_40, nI_40, nI_add, nI_add, pz_gd_t (nI_ix (show 40 * s + i + q < 160 by omega) (by decide)), pz_gd_t (nI_ix (show 40 * o + j + q < 160 by omega) (by decide)), nI_cl (by omega), nI_cl (by omega), pz_lt_d, pz_lt_d, nI_1]
      obtain ⟨J', e1, e2, e3⟩ := ih (q + 1) (mm_up J 50 0 (40 * o + j + q) (J 50 0 (40 * s + i + q))) J0 (by omega) (by omega) (fun e => by
        by_cases he : e = 40 * o + j + q
        · subst he
          rw [up_facts.2.2.2, if_pos (by omega), hJ, if_neg (by omega)]
          congr 1; omega
        · rw [up_facts.2.2.1 e he, hJ e]
          by_cases hr : 40 * o + j ≤ e ∧ e < 40 * o + j + q
          · rw [if_pos hr, if_pos (by omega)]
          · rw [if_neg hr, if_neg (by omega)])
      exact ⟨J', e1, fun k hk => by rw [e2 k hk, mm_up_ne hk], e3⟩
theorem nI_subn {a b : Nat} (h : b ≤ a) : nI a - nI b = nI (a - b) := by
  have : nI a = nI (a - b) + nI b := by rw [nI_add]; congr 1; omega
  rw [this, Int32.add_sub_cancel]
theorem cp_dn {p1 p2 p3 p4 p5 : Int32} {s i j m : Nat} (hs : s < 4) (hi : i + m ≤ 40) (hj : j + m ≤ 40) (hij : i < j) : ∀ (cnt q : Nat) (J J0 : mm_T), q ≤ m → m < q + cnt → (∀ e, J 50 0 e = if 40 * s + j + (m - q) ≤ e ∧ e < 40 * s + j + m then J0 50 0 (40 * s + i + (e - (40 * s + j))) else J0 50 0 e) → ∃ J', f_X9_copy_L121 fu p1 p2 p3 p4 p5 cnt J (nI s) (nI i) (nI s) (nI j) (nI m) 1 (nI q) = some (J', nI m) ∧ (∀ k, k ≠ 50 → J' k = J k) ∧ (∀ e, J' 50 0 e = if 40 * s + j ≤ e ∧ e < 40 * s + j + m then J0 50 0 (40 * s + i + (e - (40 * s + j))) else J0 50 0 e) := by
  intro cnt
  induction cnt with
  | zero => intro q J J0 hq hc; omega
  | succ cnt ih =>
    intro q J J0 hq hc hJ
    rw [f_X9_copy_L121]
    by_cases hqm : q = m
    · subst hqm
      rw [if_pos (nI_le (Nat.le_refl _) (by omega))]
      refine ⟨J, rfl, fun _ _ => rfl, fun e => ?_⟩
      rw [hJ e]
      by_cases hr : 40 * s + j ≤ e ∧ e < 40 * s + j + q
      · rw [if_pos hr, if_pos (by omega)]
      · rw [if_neg hr, if_neg (by omega)]
    · rw [if_neg (nI_ge (show q < m by omega) (by omega)), if_neg ne10]
      unfold f_X9_copy_L145
      have em : nI m - 1 - nI q = nI (m - 1 - q) := by
        rw [show (1 : Int32) = nI 1 from rfl, nI_subn (by omega), nI_subn (by omega)]
      rw [em, nI_40, nI_40, nI_add, nI_add, pz_gd_t (nI_ix (show 40 * s + i + (m - 1 - q) < 160 by omega) (by decide)), pz_gd_t (nI_ix (show 40 * s + j + (m - 1 - q) < 160 by omega) (by decide)), nI_cl (by omega), nI_cl (by omega), pz_lt_d, pz_lt_d, nI_1]
      obtain ⟨J', e1, e2, e3⟩ := ih (q + 1) (mm_up J 50 0 (40 * s + j + (m - 1 - q)) (J 50 0 (40 * s + i + (m - 1 - q)))) J0 (by omega) (by omega) (fun e => by
        by_cases he : e = 40 * s + j + (m - 1 - q)
        · subst he
          rw [up_facts.2.2.2, if_pos (by omega), hJ, if_neg (by omega)]
          congr 1; omega
        · rw [up_facts.2.2.1 e he, hJ e]
          by_cases hr : 40 * s + j + (m - q) ≤ e ∧ e < 40 * s + j + m
          · rw [if_pos hr, if_pos (by omega)]
          · rw [if_neg hr, if_neg (by omega)])
      exact ⟨J', e1, fun k hk => by rw [e2 k hk, mm_up_ne hk], e3⟩
theorem i32_sub {a : Nat} {b : Int32} (ha : a < 1000) (hb : 0 ≤ b.toInt) : (nI a - b).toInt = (a : Int) - b.toInt := by
  rw [Int32.toInt_sub, nI_int (by omega)]
  have := Int32.toInt_lt b
  exact Int.bmod_eq_of_le (by omega) (by omega)
set_option maxHeartbeats 8000000 in
theorem sim_copy : sm_copy Inv := by
  intro k n I J p1 p2 p3 p4 p5 hk h
  have hm := h.mono
  obtain ⟨c, hc, hR⟩ := h
  have hR0 := hR
  obtain ⟨P, S, r, tc, B, h1, H, K, T, SS, X, C⟩ := hR
  unfold f_X8_copy f_X9_copy
  rw [x8_isSheet, x9_isSheet, pz_bd_s, pz_bd_s]
  by_cases c1 : inr 4 p1 = true
  · rw [c1, b01_tt, if_neg ne10, if_neg ne10, x8_isSheet, x9_isSheet, pz_bd_s, pz_bd_s]
    by_cases c3 : inr 4 p3 = true
    · obtain ⟨s, hs, rfl⟩ := inr_nI (by decide) c1
      obtain ⟨o, ho, rfl⟩ := inr_nI (by decide) c3
      obtain ⟨s1, s2⟩ := SS s hs
      obtain ⟨o1, o2⟩ := SS o ho
      have e4 := nI_ix (j := s) (N := 4) hs (by decide)
      have e5 := nI_ix (j := o) (N := 4) ho (by decide)
      have ecl : (nI s).toNatClampNeg = s := nI_cl (by omega)
      have ecl2 : (nI o).toNatClampNeg = o := nI_cl (by omega)
      have en : decide (¬ I 26 0 s = -1) = true := decide_eq_true s1
      have en2 : decide (¬ I 26 0 o = -1) = true := decide_eq_true o1
      rw [c3, b01_tt, if_neg ne10, if_neg ne10]
      simp only [pz_gd_t e4, pz_gd_t e5, ecl, ecl2, pz_gd_t en, pz_gd_t en2]
      rcases s2 with ⟨s2, s3⟩ | ⟨so, z, d1, d2, d3, d4, d5, d6, d7, d8⟩
      · rw [s2, s3, if_pos rfl, if_pos rfl]
        exact ⟨_, _, rfl, rfl, rfl, hm⟩
      · rw [d3, d4, if_neg (nI_neg1 (by omega)), if_neg ne10]
        rcases o2 with ⟨o2, o3⟩ | ⟨so', z', f1, f2, f3, f4, f5, f6, f7, f8⟩
        · rw [o2, o3, if_pos rfl, if_pos rfl]
          exact ⟨_, _, rfl, rfl, rfl, hm⟩
        · rw [f3, f4, if_neg (nI_neg1 (by omega)), if_neg ne10, d5, f5]
          by_cases hso : nI so = nI so'
          · rw [if_pos hso, if_pos hso, d7, f7, x5_holds d6 d2, pz_bd_s, x5_holds f6 f2, pz_bd_s]
            have h0 := show (0 : Int32).toInt = 0 by decide
            by_cases g1 : 0 ≤ p5.toInt ∧ 0 ≤ p2.toInt ∧ p2.toInt + p5.toInt ≤ (z : Int)
            · rw [b01_t (decide_eq_true g1), if_neg ne10]
              rw [if_neg (show ¬ p5 < 0 by rw [i32_lt, h0]; omega), if_neg (show ¬ p2 < 0 by rw [i32_lt, h0]; omega)]
              by_cases g2 : 0 ≤ p5.toInt ∧ 0 ≤ p4.toInt ∧ p4.toInt + p5.toInt ≤ (z' : Int)
              · rw [b01_t (decide_eq_true g2), if_neg ne10, if_neg (show ¬ p4 < 0 by rw [i32_lt, h0]; omega)]
                rw [if_neg (show ¬ nI z - p5 < p2 by rw [i32_lt, i32_sub (by omega) g1.1]; omega), if_pos (show p4 ≤ nI z' - p5 by rw [i32_le, i32_sub (by omega) g1.1]; omega)]
                obtain ⟨m, hm2, rfl⟩ := inr_nI (P := 41) (p := p5) (by decide) (by rw [inr_iff]; omega)
                obtain ⟨i, hi, rfl⟩ := inr_nI (P := 41) (p := p2) (by decide) (by rw [inr_iff]; omega)
                obtain ⟨j, hj, rfl⟩ := inr_nI (P := 41) (p := p4) (by decide) (by rw [inr_iff]; omega)
                rw [nI_int (by omega), nI_int (by omega)] at g1 g2
                have gc : pz_cp (nI i) (nI j) (nI m) 40 40 = true := by
                  unfold pz_cp
                  rw [nI_cl (by omega), nI_cl (by omega), nI_cl (by omega)]
                  exact decide_eq_true ⟨nI_pos (by omega), nI_pos (by omega), nI_pos (by omega), by omega, by omega⟩
                rw [pz_gd_t gc, pz_lt_d, nI_cl (by omega), nI_cl (by omega), nI_cl (by omega)]
                have key : ∃ J', (if nI s = nI o then (if nI j ≤ nI i then f_X9_copy_L115 fu (nI s) (nI i) (nI o) (nI j) (nI m) J (nI s) (nI i) (nI o) (nI j) (nI m) else f_X9_copy_L116 fu (nI s) (nI i) (nI o) (nI j) (nI m) J (nI s) (nI i) (nI o) (nI j) (nI m) 1) else f_X9_copy_L115 fu (nI s) (nI i) (nI o) (nI j) (nI m) J (nI s) (nI i) (nI o) (nI j) (nI m)) = some (J', nI m) ∧ (∀ k, k ≠ 50 → J' k = J k) ∧ (∀ e, J' 50 0 e = if 40 * o + j ≤ e ∧ e < 40 * o + j + m then J 50 0 (40 * s + i + (e - (40 * o + j))) else J 50 0 e) := by
                  have up : (s = o → j ≤ i) → ∃ J', f_X9_copy_L115 fu (nI s) (nI i) (nI o) (nI j) (nI m) J (nI s) (nI i) (nI o) (nI j) (nI m) = some (J', nI m) ∧ (∀ k, k ≠ 50 → J' k = J k) ∧ (∀ e, J' 50 0 e = if 40 * o + j ≤ e ∧ e < 40 * o + j + m then J 50 0 (40 * s + i + (e - (40 * o + j))) else J 50 0 e) := fun hne => by
                    unfold f_X9_copy_L115 f_X9_copy_L116
                    have := cp_up (p1 := nI s) (p2 := nI i) (p3 := nI o) (p4 := nI j) (p5 := nI m) hs ho (show i + m ≤ 40 by omega) (show j + m ≤ 40 by omega) hne fu 0 J J (by omega) (by show m < 0 + 1000; omega) (fun e => by rw [if_neg (by omega)])
                    rw [nI_0] at this; exact this
                  by_cases hso2 : s = o
                  · rw [if_pos (by rw [hso2])]
                    by_cases hji : j ≤ i
                    · rw [if_pos (nI_le hji (by omega))]; exact up (fun _ => hji)
                    · rw [if_neg (nI_ge (by omega) (by omega))]
                      subst hso2
                      unfold f_X9_copy_L116
                      have := cp_dn (p1 := nI s) (p2 := nI i) (p3 := nI s) (p4 := nI j) (p5 := nI m) hs (show i + m ≤ 40 by omega) (show j + m ≤ 40 by omega) (show i < j by omega) fu 0 J J (by omega) (by show m < 0 + 1000; omega) (fun e => by rw [if_neg (by omega)])
                      rw [nI_0] at this; exact this
                  · rw [if_neg (fun e => hso2 ((nI_eqM (by omega) (by omega)).mp e))]; exact up (fun e => absurd e hso2)
                obtain ⟨J', e1, e2, e3⟩ := key
                rw [e1]
                refine ⟨_, _, rfl, rfl, rfl, c, by omega, hR0.sheet (fun k a b => by dsimp only; rw [mm_row_ne b]) (fun k a => e2 k (by omega)) (fun s' hs' => ?_)⟩
                dsimp only
                rw [mm_row_ne (show (26 : Nat) ≠ 27 by decide), mm_row_ne (show (5 : Nat) ≠ 27 by decide), e2 47 (by decide), e2 48 (by decide), e2 49 (by decide)]
                obtain ⟨b1, b2⟩ := SS s' hs'
                refine ⟨b1, b2.imp id ?_⟩
                rintro ⟨so9, z9, d1', d2', d3', d4', d5', d6', d7', d8'⟩
                refine ⟨so9, z9, d1', d2', d3', d4', d5', d6', d7', fun x hx => ?_⟩
                dsimp only
                rw [e3]
                by_cases hss : s' = o
                · subst hss
                  rw [mm_row_at]
                  unfold va_cpy
                  have hz9 : nI z9 = nI z' := d6'.symm.trans f6
                  have hz9' : z9 = z' := (nI_eqM (by omega) (by omega)).mp hz9
                  by_cases hr : j ≤ x ∧ x < j + m
                  · rw [if_pos hr, if_pos (by omega), d8 (i + (x - j)) (by omega)]
                    show J 50 0 (40 * s + (i + (x - j))) = J 50 0 _
                    congr 1; omega
                  · rw [if_neg hr, if_neg (by omega)]; exact d8' x hx
                · rw [mm_row_ni hss, if_neg (by omega)]; exact d8' x hx
              · rw [b01_f (fun h => g2 (of_decide_eq_true h)), if_pos z00]
                by_cases g4 : p4 < 0
                · rw [if_pos g4]; exact ⟨_, _, rfl, rfl, rfl, hm⟩
                · rw [if_neg g4, if_neg (show ¬ nI z - p5 < p2 by rw [i32_lt, i32_sub (by omega) g1.1]; omega), if_neg (show ¬ p4 ≤ nI z' - p5 by rw [i32_le, i32_sub (by omega) g1.1]; rw [i32_lt, h0] at g4; omega)]
                  exact ⟨_, _, rfl, rfl, rfl, hm⟩
            · rw [b01_f (fun h => g1 (of_decide_eq_true h)), if_pos z00]
              by_cases g5 : p5 < 0
              · rw [if_pos g5]; exact ⟨_, _, rfl, rfl, rfl, hm⟩
              · rw [if_neg g5]
                by_cases g6 : p2 < 0
                · rw [if_pos g6]; exact ⟨_, _, rfl, rfl, rfl, hm⟩
                · rw [if_neg g6]
                  rw [i32_lt, h0] at g5 g6
                  by_cases g7 : p4 < 0
                  · rw [if_pos g7]; exact ⟨_, _, rfl, rfl, rfl, hm⟩
                  · rw [if_neg g7, if_pos (show nI z - p5 < p2 by rw [i32_lt, i32_sub (by omega) (by omega)]; omega)]
                    exact ⟨_, _, rfl, rfl, rfl, hm⟩
          · rw [if_neg hso, if_neg hso]
            exact ⟨_, _, rfl, rfl, rfl, hm⟩
    · rw [b01_f c3, if_pos z00, if_pos z00]
      exact ⟨_, _, rfl, rfl, rfl, hm⟩
  · rw [b01_f c1, if_pos z00, if_pos z00]
    exact ⟨_, _, rfl, rfl, rfl, hm⟩
theorem nI_3 {q : Nat} : (3 : Int32) * nI q = nI (3 * q) := (Int32.ofNat_mul 3 q).symm
theorem at_int {x q : Nat} (hx : x < 2147483648) (hq : q < 8) : (nI x + nI (3 * q)).toInt = (x : Int) + 3 * q ∨ (nI x + nI (3 * q)).toInt < 0 := by
  rw [Int32.toInt_add, nI_int hx, nI_int (by omega)]
  rcases Nat.lt_or_ge (x + 3 * q) 2147483648 with h | h
  · left
    have : ((x : Int) + ((3 * q : Nat) : Int)).bmod (2 ^ 32) = (x : Int) + ((3 * q : Nat) : Int) := Int.bmod_eq_of_le (by omega) (by omega)
    rw [this]; omega
  · right
    have h2 : ((x : Int) + ((3 * q : Nat) : Int)).bmod (2 ^ 32) = ((x : Int) + ((3 * q : Nat) : Int) - 2 ^ 32) := by
      have := @Int.bmod_eq_of_le ((x : Int) + ((3 * q : Nat) : Int) - 2 ^ 32) (2 ^ 32) (by omega) (by omega)
      rw [← this]
      exact (Int.sub_bmod_right ..).symm
    rw [h2]; omega
set_option maxHeartbeats 8000000 in
theorem sl_loop {n s z m so : Nat} {p1 p2 p3 p4 : Int32} {x0 : Int32} (hs : s < 4) (hz : z ≤ 40) (hm7 : m ≤ 7) : ∀ (cnt q : Nat) (I J : mm_T) (came : Int32) (c : Nat), q ≤ m → m < q + cnt → (q = 0 ∨ 0 ≤ x0.toInt) → c + 8 < 100000 + q → RC c n I J → I 5 s 2 = nI z → J 49 0 s = nI z → (∀ j, j < z → I 27 s j = J 50 0 (40 * s + j)) → ∃ (w v : mm_T × Int32) (c' : Nat), f_X8_slips_L78 fu n p1 p2 p3 p4 cnt I x0 (nI m) s came (nI q) = some w ∧ f_X9_slips_L75 fu p1 p2 p3 p4 cnt J (nI s) x0 (nI m) came (nI q) = some v ∧ w.2 = v.2 ∧ RC c' n w.1 v.1 ∧ c' + q ≤ c + m := by
  intro cnt
  induction cnt with
  | zero => intro q I J came c hq hc; omega
  | succ cnt ih =>
    intro q I J came c hq hc h0 hcc hR hz1 hz2 hit
    rw [f_X8_slips_L78, f_X9_slips_L75]
    by_cases hqm : q = m
    · subst hqm
      rw [if_pos (nI_le (Nat.le_refl _) (by omega)), if_pos (nI_le (Nat.le_refl _) (by omega))]
      exact ⟨_, _, c, rfl, rfl, rfl, hR, by omega⟩
    · have hqm' : q < m := by omega
      have e4 := nI_ix (j := s) (N := 4) hs (by decide)
      rw [if_neg (nI_ge hqm' (by omega)), if_neg (nI_ge hqm' (by omega)), nI_3, pz_lt_d, x5_holds hz1 hz, pz_bd_s, pz_gd_t e4, nI_cl (show s < 2147483648 by omega), hz2]
      have i0 := show (0 : Int32).toInt = 0 by decide
      have i3 := show (3 : Int32).toInt = 3 by decide
      by_cases cneg : x0 < 0
      · rw [if_pos cneg]
        have hq0 : q = 0 := by
          rcases h0 with h0 | h0
          · exact h0
          · rw [i32_lt, i0] at cneg; omega
        subst hq0
        rw [b01_f, if_pos z00]
        · exact ⟨_, _, c, rfl, rfl, rfl, hR, by omega⟩
        · rw [decide_eq_true_iff, show nI (3 * 0) = 0 from nI_0, Int32.add_zero]
          rw [i32_lt, i0] at cneg; omega
      · rw [if_neg cneg]
        obtain ⟨x, hx, rfl⟩ := nI_of cneg
        have hx : x < 2147483648 := by omega
        have hlim : (nI x ≤ nI z - nI (3 * q) - 3) ↔ x + 3 * q + 3 ≤ z := by
          rw [i32_le, nI_int hx, Int32.toInt_sub, nI_sub2 (by omega) (by omega), i3]
          have : ((z : Int) - ((3 * q : Nat) : Int) - 3).bmod (2 ^ 32) = (z : Int) - ((3 * q : Nat) : Int) - 3 := Int.bmod_eq_of_le (by omega) (by omega)
          rw [this]; omega
        by_cases cin : x + 3 * q + 3 ≤ z
        · rw [if_pos (hlim.mpr cin), nI_add]
          rw [b01_t (by rw [decide_eq_true_iff, nI_int (by omega), i3]; omega), if_neg ne10]
          have ea : ∀ d, d < 3 → nI (x + 3 * q) + nI d = nI (x + 3 * q + d) := fun d _ => nI_add _ _
          have ea1 : nI (x + 3 * q) + 1 = nI (x + 3 * q + 1) := nI_add _ 1
          have ea2 : nI (x + 3 * q) + 2 = nI (x + 3 * q + 2) := nI_add _ 2
          have eb : (40 : Int32) * nI s + nI x + nI (3 * q) = nI (40 * s + (x + 3 * q)) := by rw [nI_40, nI_add]; congr 1; omega
          have eb1 : nI (40 * s + (x + 3 * q)) + 1 = nI (40 * s + (x + 3 * q + 1)) := nI_add _ 1
          have eb2 : nI (40 * s + (x + 3 * q)) + 2 = nI (40 * s + (x + 3 * q + 2)) := nI_add _ 2
          rw [ea1, ea2, eb, pz_lt_d, eb1, eb2]
          rw [pz_gd_t (nI_ix (show x + 3 * q < 40 by omega) (by decide)), pz_gd_t (nI_ix (show x + 3 * q + 1 < 40 by omega) (by decide)), pz_gd_t (nI_ix (show x + 3 * q + 2 < 40 by omega) (by decide)), pz_gd_t (nI_ix (show 40 * s + (x + 3 * q) < 160 by omega) (by decide)), pz_gd_t (nI_ix (show 40 * s + (x + 3 * q + 1) < 160 by omega) (by decide)), pz_gd_t (nI_ix (show 40 * s + (x + 3 * q + 2) < 160 by omega) (by decide))]
          rw [nI_cl (show x + 3 * q < 2147483648 by omega), nI_cl (show x + 3 * q + 1 < 2147483648 by omega), nI_cl (show x + 3 * q + 2 < 2147483648 by omega), nI_cl (show 40 * s + (x + 3 * q) < 2147483648 by omega), nI_cl (show 40 * s + (x + 3 * q + 1) < 2147483648 by omega), nI_cl (show 40 * s + (x + 3 * q + 2) < 2147483648 by omega)]
          rw [hit (x + 3 * q) (by omega), hit (x + 3 * q + 1) (by omega), hit (x + 3 * q + 2) (by omega)]
          obtain ⟨w, v, c', e1, e2, e3, hR', hc', ⟨k5, k27, k49, k50⟩, -⟩ := rc_slip (p1 := J 50 0 (40 * s + (x + 3 * q))) (p2 := J 50 0 (40 * s + (x + 3 * q + 1))) (p3 := J 50 0 (40 * s + (x + 3 * q + 2))) (show c < 100000 by omega) hR
          rw [e1, e2, pz_bd_s, pz_bd_s, e3]
          have next : ∀ came', ∃ (w' v' : mm_T × Int32) (c'' : Nat), f_X8_slips_L78 fu n p1 p2 p3 p4 cnt w.1 (nI x) (nI m) s came' (nI (q + 1)) = some w' ∧ f_X9_slips_L75 fu p1 p2 p3 p4 cnt v.1 (nI s) (nI x) (nI m) came' (nI (q + 1)) = some v' ∧ w'.2 = v'.2 ∧ RC c'' n w'.1 v'.1 ∧ c'' + (q + 1) ≤ c' + m := fun came' =>
            ih (q + 1) w.1 v.1 came' c' (by omega) (by omega) (Or.inr (by rw [nI_int hx]; omega)) (by omega) hR' (by rw [k5]; exact hz1) (by rw [k49]; exact hz2) (fun j hj => by rw [k27, k50]; exact hit j hj)
          unfold f_X8_slips_L148 f_X9_slips_L158
          simp only [pz_lt_d, nI_1, Int32.add_zero]
          by_cases cv : v.2 < 0
          · rw [if_pos cv, if_pos cv]
            obtain ⟨w', v', c'', y1, y2, y3, y4, y5⟩ := next came
            exact ⟨w', v', c'', y1, y2, y3, y4, by omega⟩
          · rw [if_neg cv, if_neg cv]
            obtain ⟨w', v', c'', y1, y2, y3, y4, y5⟩ := next (came + 1)
            exact ⟨w', v', c'', y1, y2, y3, y4, by omega⟩
        · rw [if_neg (fun h => cin (hlim.mp h)), b01_f, if_pos z00]
          · exact ⟨_, _, c, rfl, rfl, rfl, hR, by omega⟩
          · rw [decide_eq_true_iff, i3]
            have := at_int hx (show q < 8 by omega)
            omega
set_option maxHeartbeats 8000000 in
theorem sim_slips : sm_slips Inv := by
  intro k n I J p1 p2 p3 p4 hk h
  have hm := h.mono
  obtain ⟨c, hc, hR⟩ := h
  have hR0 := hR
  obtain ⟨P, S, r, tc, B, h1, H, K, T, SS, X, C⟩ := hR
  unfold f_X8_slips f_X9_slips
  rw [x8_isSheet, x9_isSheet, pz_bd_s, pz_bd_s]
  by_cases c1 : inr 4 p1 = true
  · rw [c1, b01_tt, if_neg ne10, if_neg ne10, i64_0, i64_2, x9_in, pz_bd_s]
    by_cases c2 : inb 0 2 p2 = true
    · obtain ⟨a1, a2⟩ := inb_t c2
      rw [c2, b01_tt, if_neg ne10, if_neg a1, if_neg a2, i64_7, x9_in, pz_bd_s]
      by_cases c3 : inb 0 7 p4 = true
      · obtain ⟨b1, b2⟩ := inb_t c3
        have c3' := inb_iff.mp c3
        rw [show (0 : Int32).toInt = 0 by decide, show (7 : Int32).toInt = 7 by decide] at c3'
        rw [c3, b01_tt, if_neg ne10, if_neg b1, if_pos (show p4 ≤ 7 by rw [i32_le]; exact c3'.2)]
        obtain ⟨m, hm7, rfl⟩ := inr_nI (P := 8) (p := p4) (by decide) (by rw [inr_iff]; omega)
        obtain ⟨s, hs, rfl⟩ := inr_nI (by decide) c1
        obtain ⟨s1, s2⟩ := SS s hs
        have e4 := nI_ix (j := s) (N := 4) hs (by decide)
        have ecl : (nI s).toNatClampNeg = s := nI_cl (by omega)
        have en : decide (¬ I 26 0 s = -1) = true := decide_eq_true s1
        simp only [pz_gd_t e4, ecl, pz_gd_t en]
        unfold f_X8_slips_L60 f_X9_slips_L57
        simp only [pz_gd_t e4, ecl]
        rcases s2 with ⟨s2, s3⟩ | ⟨so, z, d1, d2, d3, d4, d5, d6, d7, d8⟩
        · rw [s2, s3]
          simp only [if_true]
          exact ⟨_, _, rfl, rfl, rfl, hm⟩
        · rw [d3, d4, if_neg (nI_neg1 (by omega)), if_neg ne10, if_neg (nI_neg1 (by omega)), if_neg ne10, d5]
          by_cases cs : nI so = p2
          · rw [if_pos cs, if_pos cs]
            obtain ⟨w, v, c', y1, y2, y3, y4, y5⟩ := sl_loop (n := n) (so := so) (p1 := nI s) (p2 := p2) (p3 := p3) (p4 := nI m) (x0 := p3) hs d2 (show m ≤ 7 by omega) fu 0 I J 0 c (by omega) (by show m < 0 + 1000; omega) (Or.inl rfl) (by omega) hR0 d6 d7 d8
            rw [nI_0] at y1 y2
            exact ⟨w, v, y1, y2, y3, c', by omega, y4⟩
          · rw [if_neg cs, if_neg cs]
            exact ⟨_, _, rfl, rfl, rfl, hm⟩
      · rw [b01_f c3, if_pos z00]
        rcases inb_f c3 with a | ⟨a, b⟩
        · rw [if_pos a]; exact ⟨_, _, rfl, rfl, rfl, hm⟩
        · rw [if_neg a, if_neg (show ¬ p4 ≤ 7 by rw [i32_le]; rw [i32_lt] at b; omega)]; exact ⟨_, _, rfl, rfl, rfl, hm⟩
    · rw [b01_f c2, if_pos z00]
      rcases inb_f c2 with a | ⟨a, b⟩
      · rw [if_pos a]; exact ⟨_, _, rfl, rfl, rfl, hm⟩
      · rw [if_neg a, if_pos b]; exact ⟨_, _, rfl, rfl, rfl, hm⟩
  · rw [b01_f c1, if_pos z00, if_pos z00]
    exact ⟨_, _, rfl, rfl, rfl, hm⟩
