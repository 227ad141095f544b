/-! ===== a token of the reference ===== -/
/-- what the reference makes of what stands at p -/
def TR (B Sz : Nat) (w : Nat → Int32) (p q : Nat) (J : mm_T) : Prop :=
  (p = B ∧ q = B ∧ J 9 0 26 = 0 ∧ J 9 0 27 = nI Sz) ∨ (p < q ∧ q ≤ B ∧ J 9 0 27 = nI p ∧ (
    ((∀ x, p ≤ x → x < q → isd (w x) = true) ∧ (q - p ≤ 4 → J 9 0 26 = 2 ∧ J 9 0 25 = nI q ∧ J 9 0 28 = nI (nvN w p (q - p))) ∧ (¬ q - p ≤ 4 → J 9 0 26 = 4)) ∨
    (∃ s, s ∈ sgs ∧ w p = nI s ∧ J 9 0 26 = 3 ∧ J 9 0 25 = nI q ∧ J 9 0 28 = nI s) ∨
    ((∀ x, p ≤ x → x < q → isl (w x) = true) ∧ J 9 0 26 = 1 ∧ J 9 0 25 = nI q) ∨
    (isl (w p) = false ∧ isd (w p) = false ∧ (∃ v, v < 256 ∧ w p = nI v ∧ sgs.contains v = false) ∧ J 9 0 26 = 4)))
theorem sg_eq : ∀ v, v < 256 → sgs.contains v = (decide (nI v = 40) || decide (nI v = 41) || decide (nI v = 59) || decide (nI v = 43) || decide (nI v = 45) || decide (nI v = 42) || decide (nI v = 60) || decide (nI v = 61)) := by decide +kernel
theorem l300_r {J : mm_T} {v : Int32} {x : Nat} (h : J 9 0 25 = nI x) : ∃ J', f_X9_next_L300 fu J v = some J' ∧ (∀ k, k ≠ 9 → J' k = J k) ∧ (∀ j, j ≠ 25 → j ≠ 26 → j ≠ 28 → J' 9 0 j = J 9 0 j) ∧ J' 9 0 25 = nI (x + 1) ∧ J' 9 0 26 = 3 ∧ J' 9 0 28 = v := by
  unfold f_X9_next_L300
  simp only [pz_lt_n, i64_back]
  rw [pz_gd_t (decide_eq_true trivial)]
  refine ⟨_, rfl, fun k hk => by rw [mm_up_ne hk, mm_up_ne hk, mm_up_ne hk], fun j a b c => by rw [mm_get, if_neg (fun q => a q.2.2), mm_get, if_neg (fun q => c q.2.2), mm_get, if_neg (fun q => b q.2.2)], ?_, ?_, ?_⟩
  · rw [mm_get, if_pos ⟨rfl, rfl, rfl⟩, mm_get, if_neg (by omega), mm_get, if_neg (by omega), h, nI_1]
  · rw [mm_get, if_neg (by omega), mm_get, if_neg (by omega), mm_get, if_pos ⟨rfl, rfl, rfl⟩]
  · rw [mm_get, if_neg (by omega), mm_get, if_pos ⟨rfl, rfl, rfl⟩]
set_option maxHeartbeats 4000000 in
theorem tok_r {B Sz t p q cnt : Nat} {w : Nat → Int32} {I J : mm_T} {ct cn : Int32} (hY : BY B Sz t w I J) (hT : TC B w p q ct cn) (hb : p < B → ¬ bl (w p)) (h25 : J 9 0 25 = nI (if p < B then p else Sz)) : ∃ J', f_X9_next_L0 fu (cnt + 1) J = some J' ∧ (∀ k, k ≠ 9 → J' k = J k) ∧ (∀ j, (j < 25 ∨ 28 < j) → J' 9 0 j = J 9 0 j) ∧ TR B Sz w p q J' := by
  have hB : B ≤ Sz ∧ Sz ≤ 160 := ⟨hY.1.1, hY.1.2.1⟩
  have hsz : ¬ isl (-1) = true ∧ ¬ isd (-1) = true ∧ ¬ isl 32 = true ∧ ¬ isd 32 = true := by decide
  unfold f_X9_next_L0
  rcases hT with ⟨e1, e2, e3⟩ | ⟨c1, c2, hT⟩
  · subst e1
    rw [if_neg (by omega)] at h25
    rw [h25, byte_r hY (by omega), pz_bd_s, show bya p Sz w Sz = -1 from by unfold bya; rw [if_neg (by omega), if_neg (by omega)], if_neg (show ¬ (-1 : Int32) = 32 by decide), pz_bd_s, if_neg (show ¬ (-1 : Int32) = 10 by decide)]
    simp only [pz_lt_n]
    rw [mm_get, if_neg (by omega), h25, byte_r (hY.up _ (by decide) (by decide)) (by omega), pz_bd_s, show bya p Sz w Sz = -1 from by unfold bya; rw [if_neg (by omega), if_neg (by omega)], if_neg (show ¬ (0 : Int32) ≤ -1 by decide)]
    refine ⟨_, rfl, fun k hk => by rw [mm_up_ne hk, mm_up_ne hk, mm_up_ne hk, mm_up_ne hk], fun j hj => by rw [mm_get, if_neg (by omega), mm_get, if_neg (by omega), mm_get, if_neg (by omega), mm_get, if_neg (by omega)], Or.inl ⟨rfl, e2, ?_, ?_⟩⟩
    · rw [mm_get, if_neg (by omega), mm_get, if_pos ⟨rfl, rfl, rfl⟩]
    · rw [mm_get, if_pos ⟨rfl, rfl, rfl⟩, mm_get, if_neg (by omega), mm_get, if_neg (by omega), mm_get, if_neg (by omega)]; exact hY.2.1.2.1
  · have hpB : p < B := by omega
    rw [if_pos hpB] at h25
    obtain ⟨v, hv, ev⟩ := (hY.2.2.1 p hpB).2.2
    have hbl := hb hpB
    have hby : bya B Sz w p = w p := if_pos hpB
    rw [h25, byte_r hY (by omega), hby, pz_bd_s, if_neg (fun e => hbl (Or.inl e)), pz_bd_s, if_neg (fun e => hbl (Or.inr e))]
    simp only [pz_lt_n]
    rw [mm_get, if_neg (by omega), h25, byte_r (hY.up _ (by decide) (by decide)) (by omega), pz_bd_s, hby, if_pos (show 0 ≤ w p from by rw [ev, i32_le, nI_int (by omega), show (0 : Int32).toInt = 0 by decide]; omega), letter_9, pz_bd_s]
    generalize hJ7 : mm_up (mm_up J 9 0 27 (nI p)) 9 0 26 4 = J7
    have k7 : ∀ k, k ≠ 9 → J7 k = J k := fun k hk => by rw [← hJ7, mm_up_ne hk, mm_up_ne hk]
    have j7 : ∀ j, j ≠ 26 → j ≠ 27 → J7 9 0 j = J 9 0 j := fun j a b => by rw [← hJ7, mm_get, if_neg (fun q => a q.2.2), mm_get, if_neg (fun q => b q.2.2)]
    have h26 : J7 9 0 26 = 4 := by rw [← hJ7, mm_get, if_pos ⟨rfl, rfl, rfl⟩]
    have h27 : J7 9 0 27 = nI p := by rw [← hJ7, mm_get, if_neg (by omega), mm_get, if_pos ⟨rfl, rfl, rfl⟩]
    have h25' : J7 9 0 25 = nI p := (j7 25 (by decide) (by decide)).trans h25
    have hY7 : BY B Sz t w I J7 := by rw [← hJ7]; exact (hY.up _ (by decide) (by decide)).up _ (by decide) (by decide)
    have hq500 : q < 500 := by omega
    have endb : ∀ g : Int32 → Bool, g (-1) = false → g 32 = false → (q < B → g (w q) = false) → g (bya B Sz w q) = false := fun g g1 g2 g3 => by
      unfold bya
      by_cases c : q < B
      · rw [if_pos c]; exact g3 c
      · rw [if_neg c]
        by_cases c' : q < Sz
        · rw [if_pos c']; exact g2
        · rw [if_neg c']; exact g1
    rcases hT with ⟨d1, d2, d3, d4⟩ | ⟨s, s1, s2, s3, s4⟩ | ⟨w1, w2, w3⟩ | ⟨x1, x2, x3, x4, x5⟩
    · have hd := d1 p (Nat.le_refl _) c1
      obtain ⟨e, e1, e2, e3⟩ := isd_nI hd
      have hnl : isl (w p) = false := by
        rw [e2]; exact (by decide : ∀ e, e < 10 → isl (nI (48 + e)) = false) e e1
      rw [hnl, if_pos (show b01 false = 0 from rfl), digit_9, hd, pz_bd_s, if_neg (show ¬ b01 true = 0 by decide)]
      rw [pz_gd_t (by decide), show (0 : Int64).toInt32 = 0 by decide]
      obtain ⟨J', g1, g2, g3, g4, g5, g6⟩ := num_r (B := B) (Sz := Sz) (t := t) (p := p) (w := w) (I := I) c2 (endb isd (by decide) (by decide) d2) (q - p) p fu (mm_up (mm_up J7 9 0 26 2) 9 0 28 0) (by omega) (Nat.le_refl _) (by show _ < 1000; omega) ((hY7.up _ (by decide) (by decide)).up _ (by decide) (by decide)) d1 (by rw [mm_get, if_neg (by omega), mm_get, if_neg (by omega)]; exact h25') (fun _ => by rw [mm_get, if_pos ⟨rfl, rfl, rfl⟩, Nat.sub_self]; rfl)
      rw [Nat.sub_self] at g1
      refine ⟨J', g1, fun k hk => by rw [g2 k hk, mm_up_ne hk, mm_up_ne hk, k7 k hk], fun j hj => by rw [g3 j (by omega) (by omega) (by omega), mm_get, if_neg (by omega), mm_get, if_neg (by omega), j7 j (by omega) (by omega)], Or.inr ⟨c1, c2, by rw [g3 27 (by omega) (by omega) (by omega), mm_get, if_neg (by omega), mm_get, if_neg (by omega)]; exact h27, Or.inl ⟨d1, fun h => ⟨(g5 h).1, g4, (g5 h).2⟩, g6⟩⟩⟩
    · have hsg : ∀ s, s ∈ sgs → isl (nI s) = false ∧ isd (nI s) = false ∧ s < 256 := by decide
      obtain ⟨y1, y2, y3⟩ := hsg s s1
      obtain ⟨J', g1, g2, g3, g4, g5, g6⟩ := l300_r (J := J7) (v := w p) h25'
      have hres : (if w p = 40 then (f_X9_next_L300 fu J7 (w p)) else (if w p = 41 then (f_X9_next_L300 fu J7 (w p)) else (if w p = 59 then (f_X9_next_L300 fu J7 (w p)) else (if w p = 43 then (f_X9_next_L300 fu J7 (w p)) else (if w p = 45 then (f_X9_next_L300 fu J7 (w p)) else (if w p = 42 then (f_X9_next_L300 fu J7 (w p)) else (if w p = 60 then (f_X9_next_L300 fu J7 (w p)) else (if w p = 61 then (f_X9_next_L300 fu J7 (w p)) else (some J7))))))))) = some J' := by
        rw [g1]
        have hc := sg_eq s y3
        rw [List.contains_iff_mem.mpr s1, ← s3] at hc
        by_cases a1 : w p = 40
        · rw [if_pos a1]
        rw [if_neg a1]
        by_cases a2 : w p = 41
        · rw [if_pos a2]
        rw [if_neg a2]
        by_cases a3 : w p = 59
        · rw [if_pos a3]
        rw [if_neg a3]
        by_cases a4 : w p = 43
        · rw [if_pos a4]
        rw [if_neg a4]
        by_cases a5 : w p = 45
        · rw [if_pos a5]
        rw [if_neg a5]
        by_cases a6 : w p = 42
        · rw [if_pos a6]
        rw [if_neg a6]
        by_cases a7 : w p = 60
        · rw [if_pos a7]
        rw [if_neg a7]
        by_cases a8 : w p = 61
        · rw [if_pos a8]
        exfalso
        rw [decide_eq_false a1, decide_eq_false a2, decide_eq_false a3, decide_eq_false a4, decide_eq_false a5, decide_eq_false a6, decide_eq_false a7, decide_eq_false a8] at hc
        exact absurd hc (by decide)
      rw [s3] at hres g6 ⊢
      rw [y1, if_pos (show b01 false = 0 from rfl), digit_9, y2, pz_bd_s, if_pos (show b01 false = 0 from rfl), hres]
      exact ⟨J', rfl, fun k hk => (g2 k hk).trans (k7 k hk), fun j hj => by rw [g3 j (by omega) (by omega) (by omega), j7 j (by omega) (by omega)], Or.inr ⟨c1, c2, by rw [g3 27 (by omega) (by omega) (by omega)]; exact h27, Or.inr (Or.inl ⟨s, s1, s3, g5, by rw [g4, s2], g6⟩)⟩⟩
    · rw [w1 p (Nat.le_refl _) c1, if_neg (show ¬ b01 true = 0 by decide)]
      have hr := word_r (B := B) (Sz := Sz) (t := t) (w := w) (I := I) hq500 (endb isl (by decide) (by decide) w2) (q - p) p fu (mm_up J7 9 0 26 1) (by omega) (by show _ < 1000; omega) (hY7.up _ (by decide) (by decide)) (fun x y1 y2 => by unfold bya; rw [if_pos (by omega)]; exact w1 x y1 y2) (by rw [mm_get, if_neg (by omega)]; exact h25')
      rw [hr]
      refine ⟨_, rfl, fun k hk => by rw [mm_up_ne hk, mm_up_ne hk, k7 k hk], fun j hj => by rw [mm_get, if_neg (by omega), mm_get, if_neg (by omega), j7 j (by omega) (by omega)], Or.inr ⟨c1, c2, by rw [mm_get, if_neg (by omega), mm_get, if_neg (by omega)]; exact h27, Or.inr (Or.inr (Or.inl ⟨w1, by rw [mm_get, if_neg (by omega), mm_get, if_pos ⟨rfl, rfl, rfl⟩], by rw [mm_get, if_pos ⟨rfl, rfl, rfl⟩]⟩))⟩⟩
    · obtain ⟨u, u1, u2, u3⟩ := x4
      have hc := sg_eq u u1
      rw [u3, ← u2] at hc
      have hh := hc.symm
      simp only [Bool.or_eq_false_iff, decide_eq_false_iff_not] at hh
      obtain ⟨⟨⟨⟨⟨⟨⟨a1, a2⟩, a3⟩, a4⟩, a5⟩, a6⟩, a7⟩, a8⟩ := hh
      rw [x2, if_pos (show b01 false = 0 from rfl), digit_9, x3, pz_bd_s, if_pos (show b01 false = 0 from rfl), if_neg a1, if_neg a2, if_neg a3, if_neg a4, if_neg a5, if_neg a6, if_neg a7, if_neg a8]
      exact ⟨J7, rfl, fun k hk => k7 k hk, fun j hj => j7 j (by omega) (by omega), Or.inr ⟨c1, c2, h27, Or.inr (Or.inr (Or.inr ⟨x2, x3, ⟨u, u1, u2, u3⟩, h26⟩))⟩⟩
