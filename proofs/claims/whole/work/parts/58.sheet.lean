/-! ===== sheet, cell, copy, slips ===== -/
theorem RC.sheet {c n : Nat} {I J I' J' : mm_T} (h : RC c n I J) (hI : ∀ k, k ≠ 5 → k ≠ 27 → I' k = I k) (hJ : ∀ k, k < 47 → J' k = J k) (hs : SI I' J') : RC c n I' J' := by
  obtain ⟨P, S, r, tc, B, h1, H, K, T, SS, X, C⟩ := h
  have i1 := hI 1 (by decide) (by decide)
  have i2 := hI 2 (by decide) (by decide)
  have i6 := hI 6 (by decide) (by decide)
  have i8 := hI 8 (by decide) (by decide)
  have i3 := hI 3 (by decide) (by decide)
  have j9 := hJ 9 (by decide)
  refine ⟨P, S, r, tc, B, h1, ?_, ?_, T.to (by rw [i3]) (hI 18 (by decide) (by decide)) (by rw [j9]) (hJ 32 (by decide)), hs, X.to (by rw [i8]) (by rw [j9]) (hI 20 (by decide) (by decide)) (hI 7 (by decide) (by decide)) (hI 28 (by decide) (by decide)) (hJ 30 (by decide)) (hJ 31 (by decide)), C.to (by rw [i1]) (hI 4 (by decide) (by decide)) (fun j _ _ => by rw [i1]) (fun p _ => by rw [i2]) (fun s _ => by rw [i6]) (by rw [hI 7 (by decide) (by decide)]) (by rw [hI 28 (by decide) (by decide)]) (hI 22 (by decide) (by decide)) (hI 23 (by decide) (by decide)) (hI 24 (by decide) (by decide)) (hI 25 (by decide) (by decide))⟩
  · unfold HI
    rw [i1, i2, i6, j9, hJ 33 (by decide), hJ 34 (by decide), hJ 35 (by decide), hJ 36 (by decide), hJ 37 (by decide), hJ 38 (by decide)]; exact H
  · unfold KI
    rw [i1, i2, i6, i8, j9, hJ 35 (by decide), hJ 45 (by decide), hJ 46 (by decide)]; exact K
theorem x8_isSheet {p : Int32} : f_X8_isSheet fu p = some (b01 (inr 4 p)) := by
  unfold f_X8_isSheet
  have h4 : (4 : Int32).toInt = 4 := by decide
  by_cases h1 : p < 0
  · rw [if_pos h1, b01_f]
    rw [i32_lt, show (0 : Int32).toInt = 0 by decide] at h1
    rw [inr_iff]; omega
  · rw [if_neg h1]
    rw [i32_lt, show (0 : Int32).toInt = 0 by decide] at h1
    by_cases h2 : (4 : Int32) ≤ p
    · rw [if_pos h2, b01_f]
      rw [i32_le, h4] at h2
      rw [inr_iff]; omega
    · rw [if_neg h2, b01_t]
      rw [i32_le, h4] at h2
      rw [inr_iff]; omega

theorem i64_m1 : (-1 : Int64) = (-1 : Int32).toInt64 := by decide
theorem x9_isSheet {p : Int32} : f_X9_isSheet fu p = some (b01 (inr 4 p)) := by
  unfold f_X9_isSheet
  rw [i64_0, i64_3, x9_in, pz_bd_s, pz_gd_t b01_z]
  congr 2
  unfold inb inr
  congr 1
  rw [show (0 : Int32).toInt = 0 by decide, show (3 : Int32).toInt = 3 by decide]
  exact propext ⟨fun q => ⟨q.1, by omega⟩, fun q => ⟨q.1, by omega⟩⟩
theorem nI_40 {s j : Nat} : (40 : Int32) * nI s + nI j = nI (40 * s + j) := by
  rw [← nI_add]
  congr 1
  exact (Int32.ofNat_mul 40 s).symm
theorem nI_neg1 {z : Nat} (h : z < 2147483648) : ¬ nI z = -1 := fun e => by
  have := congrArg Int32.toInt e
  rw [nI_int h, show (-1 : Int32).toInt = -1 by decide] at this; omega
theorem nI_sub2 {a b : Nat} (ha : a < 2147483648) (hb : b < 2147483648) : (nI a - nI b).toInt = (a : Int) - b := by
  rw [Int32.toInt_sub, nI_int ha, nI_int hb]
  exact Int.bmod_eq_of_le (by omega) (by omega)
/-- holds(i, k) of the class: k items from i on lie within the size -/
theorem x5_holds {n s z : Nat} {I : mm_T} (hz : I 5 s 2 = nI z) (hz4 : z ≤ 40) {i k : Int32} : f_X5_holds fu n I s i k = some (b01 (decide (0 ≤ k.toInt ∧ 0 ≤ i.toInt ∧ i.toInt + k.toInt ≤ z))) := by
  unfold f_X5_holds
  have h0 := show (0 : Int32).toInt = 0 by decide
  rw [hz]
  by_cases c1 : k < 0
  · rw [if_pos c1, b01_f]; rw [i32_lt, h0] at c1; rw [decide_eq_true_iff]; omega
  · rw [if_neg c1]; rw [i32_lt, h0] at c1
    by_cases c2 : nI z < k
    · rw [if_pos c2, b01_f]; rw [i32_lt, nI_int (by omega)] at c2; rw [decide_eq_true_iff]; omega
    · rw [if_neg c2]; rw [i32_lt, nI_int (by omega)] at c2
      by_cases c3 : i < 0
      · rw [if_pos c3, b01_f]; rw [i32_lt, h0] at c3; rw [decide_eq_true_iff]; omega
      · rw [if_neg c3]; rw [i32_lt, h0] at c3
        obtain ⟨k', hk', rfl⟩ := inr_nI (P := 41) (p := k) (by decide) (by rw [inr_iff]; omega)
        rw [nI_int (by omega)] at c1 c2
        by_cases c4 : nI z - nI k' < i
        · rw [if_pos c4, b01_f]; rw [i32_lt, nI_sub2 (by omega) (by omega)] at c4; rw [decide_eq_true_iff, nI_int (by omega)]; omega
        · rw [if_neg c4, b01_t]; rw [i32_lt, nI_sub2 (by omega) (by omega)] at c4; rw [decide_eq_true_iff, nI_int (by omega)]; omega
/-- the reference lays a row of zeros -/
theorem s77 {p1 p2 p3 : Int32} {s so z : Nat} (hs : s < 4) (hso : so < 3) (hz : z ≤ 40) : ∀ (cnt q : Nat) (J : mm_T), q ≤ z → z < q + cnt → ∃ J', f_X9_sheet_L77 fu p1 p2 p3 cnt J (nI s) (nI so) (nI z) (nI q) = some (J', 1) ∧ (∀ k, k ≠ 50 → J' k = J k) ∧ ∀ e, J' 50 0 e = if 40 * s + q ≤ e ∧ e < 40 * s + z then 0 else J 50 0 e := by
  intro cnt
  induction cnt with
  | zero => intro q J hq hc; omega
  | succ cnt ih =>
    intro q J hq hc
    rw [f_X9_sheet_L77]
    by_cases hqz : q = z
    · subst hqz
      rw [if_pos (nI_le (Nat.le_refl _) (by omega))]
      exact ⟨J, rfl, fun _ _ => rfl, fun e => by rw [if_neg (by omega)]⟩
    · rw [if_neg (nI_ge (show q < z by omega) (by omega)), if_neg (nI_pos (by omega)), nI_40, pz_gd_t (nI_ix (show 40 * s + q < 160 by omega) (by decide)), nI_cl (by omega), pz_lt_d, pz_lt_d, nI_1]
      obtain ⟨J', e1, e2, e3⟩ := ih (q + 1) (mm_up J 50 0 (40 * s + q) 0) (by omega) (by omega)
      refine ⟨J', e1, fun k hk => by rw [e2 k hk, mm_up_ne hk], fun e => ?_⟩
      rw [e3 e]
      by_cases h1 : 40 * s + (q + 1) ≤ e ∧ e < 40 * s + z
      · rw [if_pos h1, if_pos (by omega)]
      · rw [if_neg h1]
        by_cases h2 : e = 40 * s + q
        · subst h2; rw [up_facts.2.2.2, if_pos (by omega)]
        · rw [up_facts.2.2.1 e h2, if_neg (by omega)]
theorem nar0 : vp_nar .boolean 0 = 0 := rfl
theorem nar1 : vp_nar .boolean 1 = 1 := rfl
set_option maxHeartbeats 4000000 in
theorem sim_sheet : sm_sheet Inv := by
  intro k n I J p1 p2 p3 hk h
  have hm := h.mono
  obtain ⟨c, hc, hR⟩ := h
  have hR0 := hR
  obtain ⟨P, S, r, tc, B, h1, H, K, T, SS, X, C⟩ := hR
  unfold f_X8_sheet f_X9_sheet
  rw [x8_isSheet, x9_isSheet, pz_bd_s, pz_bd_s]
  by_cases c1 : inr 4 p1 = true
  · obtain ⟨s, hs, rfl⟩ := inr_nI (by decide) c1
    obtain ⟨s1, s2⟩ := SS s hs
    have e4 := nI_ix (j := s) (N := 4) hs (by decide)
    have ecl : (nI s).toNatClampNeg = s := nI_cl (by omega)
    have en : decide (¬ I 26 0 s = -1) = true := decide_eq_true s1
    rw [c1, b01_tt, if_neg ne10, if_neg ne10, i64_m1, i64_2, x9_in, pz_bd_s]
    by_cases c2 : inb (-1) 2 p2 = true
    · obtain ⟨a1, a2⟩ := inb_t c2
      have c2' := inb_iff.mp c2
      rw [show (-1 : Int32).toInt = -1 by decide, show (2 : Int32).toInt = 2 by decide] at c2'
      rw [c2, b01_tt, if_neg ne10, if_neg a1, if_pos (show p2 ≤ 2 by rw [i32_le]; exact c2'.2)]
      by_cases c3 : p2 = -1
      · subst c3
        rw [if_pos rfl, if_pos (by decide), ecl, pz_gd_t e4, pz_gd_t en]
        unfold f_X5_remake f_X9_sheet_L34 f_X9_sheet_L45 f_X9_sheet_L59
        rw [if_pos (by decide), if_pos (by decide)]
        simp only [pz_lt_d, pz_bd_s, pz_gd_t e4, ecl, nar0]
        have e77 : ∀ J0, f_X9_sheet_L77 fu (nI s) (-1) p3 fu J0 (nI s) (-1) p3 0 = some (J0, 1) := by
          intro J0
          rw [show fu = 999 + 1 from rfl, f_X9_sheet_L77]
          by_cases hp : p3 ≤ 0
          · rw [if_pos hp]
          · rw [if_neg hp, if_pos (by decide)]
        rw [e77]
        obtain ⟨I', hI'⟩ : ∃ z, z = mm_row (mm_up (mm_up I 5 s 1 (-1)) 5 s 2 0) 27 s (pz_fill (mm_up (mm_up I 5 s 1 (-1)) 5 s 2 0 27 s) 40 0) := ⟨_, rfl⟩
        obtain ⟨J', hJ'⟩ : ∃ z, z = mm_up (mm_up (mm_up J 47 0 s 0) 48 0 s (-1)) 49 0 s p3 := ⟨_, rfl⟩
        rw [← hI', ← hJ']
        refine ⟨(I', 1), (J', 1), rfl, rfl, rfl, c, by omega, ?_⟩
        show RC c n I' J'
        refine hR0.sheet (fun k a b => by rw [hI', mm_row_ne b, mm_up_ne a, mm_up_ne a]) (fun k a => by rw [hJ', mm_up_ne (by omega), mm_up_ne (by omega), mm_up_ne (by omega)]) (fun s' hs' => ?_)
        have i26 : I' 26 = I 26 := by rw [hI', mm_row_ne (by decide), mm_up_ne (by decide), mm_up_ne (by decide)]
        have j50 : J' 50 = J 50 := by rw [hJ', mm_up_ne (by decide), mm_up_ne (by decide), mm_up_ne (by decide)]
        by_cases hss : s' = s
        · subst hss
          refine ⟨by rw [i26]; exact s1, Or.inl ⟨?_, ?_⟩⟩
          · rw [hI', mm_row_ne (by decide), up_facts.2.2.1 1 (by decide), up_facts.2.2.2]
          · simp [hJ', mm_get]
        · have i5 : I' 5 s' = I 5 s' := by rw [hI', mm_row_ne (by decide), mm_up_ni hss, mm_up_ni hss]
          have i27 : I' 27 s' = I 27 s' := by rw [hI', mm_row_ni hss, mm_up_ne (by decide), mm_up_ne (by decide)]
          have j47 : J' 47 0 s' = J 47 0 s' := by simp [hJ', mm_get, hss]
          have j48 : J' 48 0 s' = J 48 0 s' := by simp [hJ', mm_get, hss]
          have j49 : J' 49 0 s' = J 49 0 s' := by simp [hJ', mm_get, hss]
          rw [i26, i5, i27, j47, j48, j49, j50]; exact SS s' hs'
      · have hp0 : 0 ≤ p2.toInt := by
          have : p2.toInt ≠ -1 := fun e => c3 (by rw [i32_eq, e]; decide)
          omega
        obtain ⟨so, hso, rfl⟩ := inr_nI (P := 3) (p := p2) (by decide) (by rw [inr_iff]; omega)
        have hneg : ¬ nI so < 0 := nI_pos (by omega)
        rw [if_neg c3, if_neg hneg]
        by_cases c4 : p3 ≤ (40 : Int32)
        · rw [if_pos c4, if_pos c4]
          unfold f_X9_sheet_L34
          rw [if_neg hneg]
          by_cases c5 : 0 ≤ p3
          · rw [if_pos c5, if_pos c5]
            rw [i32_le, show (40 : Int32).toInt = 40 by decide] at c4
            rw [i32_le, show (0 : Int32).toInt = 0 by decide] at c5
            obtain ⟨z, hz, rfl⟩ := inr_nI (P := 41) (p := p3) (by decide) (by rw [inr_iff]; omega)
            unfold f_X5_remake f_X9_sheet_L45 f_X9_sheet_L59
            rw [if_neg hneg]
            simp only [pz_lt_d, pz_bd_s, pz_gd_t e4, pz_gd_t en, ecl, nar1]
            rw [← nI_0]
            obtain ⟨I', hI'⟩ : ∃ w, w = mm_row (mm_up (mm_up I 5 s 1 (nI so)) 5 s 2 (nI z)) 27 s (pz_fill (mm_up (mm_up I 5 s 1 (nI so)) 5 s 2 (nI z) 27 s) 40 (nI 0)) := ⟨_, rfl⟩
            obtain ⟨J1, hJ1⟩ : ∃ w, w = mm_up (mm_up (mm_up J 47 0 s 1) 48 0 s (nI so)) 49 0 s (nI z) := ⟨_, rfl⟩
            rw [← hI', ← hJ1]
            obtain ⟨J', e1, e2, e3⟩ := s77 (p1 := nI s) (p2 := nI so) (p3 := nI z) hs hso (show z ≤ 40 by omega) fu 0 J1 (by omega) (by show z < 0 + 1000; omega)
            rw [e1]
            refine ⟨(I', 1), (J', 1), rfl, rfl, rfl, c, by omega, ?_⟩
            show RC c n I' J'
            refine hR0.sheet (fun k a b => by rw [hI', mm_row_ne b, mm_up_ne a, mm_up_ne a]) (fun k a => by rw [e2 k (by omega), hJ1, mm_up_ne (by omega), mm_up_ne (by omega), mm_up_ne (by omega)]) (fun s' hs' => ?_)
            have i26 : I' 26 = I 26 := by rw [hI', mm_row_ne (by decide), mm_up_ne (by decide), mm_up_ne (by decide)]
            have j150 : J1 50 = J 50 := by rw [hJ1, mm_up_ne (by decide), mm_up_ne (by decide), mm_up_ne (by decide)]
            rw [e2 47 (by decide), e2 48 (by decide), e2 49 (by decide)]
            by_cases hss : s' = s
            · subst hss
              refine ⟨by rw [i26]; exact s1, Or.inr ⟨so, z, hso, by omega, ?_, ?_, ?_, ?_, ?_, fun j hj => ?_⟩⟩
              · simp [hJ1, mm_get]
              · rw [hI', mm_row_ne (by decide), up_facts.2.2.1 1 (by decide), up_facts.2.2.2]
              · simp [hJ1, mm_get]
              · rw [hI', mm_row_ne (by decide), up_facts.2.2.2]
              · simp [hJ1, mm_get]
              · dsimp only
                rw [e3, if_pos (by omega), hI', mm_row_at]
                unfold pz_fill
                rw [if_pos (by omega)]; exact nI_0
            · have i5 : I' 5 s' = I 5 s' := by rw [hI', mm_row_ne (by decide), mm_up_ni hss, mm_up_ni hss]
              have i27 : I' 27 s' = I 27 s' := by rw [hI', mm_row_ni hss, mm_up_ne (by decide), mm_up_ne (by decide)]
              have j47 : J1 47 0 s' = J 47 0 s' := by simp [hJ1, mm_get, hss]
              have j48 : J1 48 0 s' = J 48 0 s' := by simp [hJ1, mm_get, hss]
              have j49 : J1 49 0 s' = J 49 0 s' := by simp [hJ1, mm_get, hss]
              rw [i26, i5, i27, j47, j48, j49]
              obtain ⟨b1, b2⟩ := SS s' hs'
              refine ⟨b1, b2.imp id ?_⟩
              rintro ⟨so', z', d1, d2, d3, d4, d5, d6, d7, d8⟩
              refine ⟨so', z', d1, d2, d3, d4, d5, d6, d7, fun j hj => ?_⟩
              dsimp only
              rw [e3, if_neg (by omega), j150]; exact d8 j hj
          · rw [if_neg c5, if_neg c5]
            exact ⟨_, _, rfl, rfl, rfl, hm⟩
        · rw [if_neg c4, if_neg c4]
          exact ⟨_, _, rfl, rfl, rfl, hm⟩
    · rw [b01_f c2, if_pos z00]
      rcases inb_f c2 with a | ⟨a, b⟩
      · rw [if_pos a]; exact ⟨_, _, rfl, rfl, rfl, hm⟩
      · rw [if_neg a, if_neg (show ¬ p2 ≤ 2 by rw [i32_le]; rw [i32_lt] at b; omega)]; exact ⟨_, _, rfl, rfl, rfl, hm⟩
  · rw [b01_f c1, if_pos z00, if_pos z00]
    exact ⟨_, _, rfl, rfl, rfl, hm⟩
