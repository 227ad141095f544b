theorem BY.to {B Sz t : Nat} {w : Nat → Int32} {I J I' J' : mm_T} (h : BY B Sz t w I J) (i1 : I' 3 0 1 = I 3 0 1) (i18 : I' 18 = I 18) (j23 : J' 9 0 23 = J 9 0 23) (j24 : J' 9 0 24 = J 9 0 24) (j30 : J' 30 = J 30) : BY B Sz t w I' J' := by
  unfold BY; rw [i1, i18, j23, j24, j30]; exact h
set_option maxHeartbeats 4000000 in
/-- the next token, on both sides -/
theorem tok_sim {n B Sz t p0 : Nat} {w : Nat → Int32} {I J : mm_T} (hY : BY B Sz t w I J) (h9 : I 3 0 9 = nI p0) (hp0 : p0 ≤ B) (h25 : J 9 0 25 = nI p0) : ∃ p q I' J', p0 ≤ p ∧ f_X3_readToken fu n I = some I' ∧ f_X9_next fu J = some J' ∧ (∀ k, k ≠ 3 → I' k = I k) ∧ (∀ j, (j < 6 ∨ 9 < j) → I' 3 0 j = I 3 0 j) ∧ (∀ k, k ≠ 9 → J' k = J k) ∧ (∀ j, (j < 25 ∨ 28 < j) → J' 9 0 j = J 9 0 j) ∧ I' 3 0 8 = nI p ∧ I' 3 0 9 = nI q ∧ TC B w p q (I' 3 0 6) (I' 3 0 7) ∧ TR B Sz w p q J' := by
  have hB : B ≤ Sz ∧ Sz ≤ 160 := ⟨hY.1.1, hY.1.2.1⟩
  obtain ⟨p, p1, p2, p3, p4⟩ := bl_ex (B := B) (w := w) (B - p0) p0 (by omega)
  obtain ⟨I', q, g1, g2, g3, g4, g5, g6⟩ := l60_c (n := n) (I := mm_up (mm_up I 3 0 8 (nI p0)) 3 0 8 (nI p)) (p := p) (w := w) (B := B) (by omega) p2 (by rw [mm_get, if_neg (by omega), mm_get, if_neg (by omega)]; exact hY.2.1.1) (by rw [mm_get, if_pos ⟨rfl, rfl, rfl⟩]) (fun j hj => by rw [mm_up_ne (by decide), mm_up_ne (by decide)]; exact ⟨(hY.2.2.1 j hj).1, (hY.2.2.1 j hj).2.2⟩)
  have hc : f_X3_readToken fu n I = some I' := by
    unfold f_X3_readToken
    rw [h9, pz_lt_n, skip_c (n := n) (by omega) p2 p4 (p - p0) p0 fu (mm_up I 3 0 8 (nI p0)) (by omega) (by show _ < 1000; omega) p3 (by rw [mm_get, if_neg (by omega)]; exact hY.2.1.1) (by rw [mm_get, if_pos ⟨rfl, rfl, rfl⟩]) (fun j hj => by rw [mm_up_ne (by decide)]; exact (hY.2.2.1 j hj).1)]
    exact g1
  generalize hpr : (if p < B then p else Sz) = pr
  have hpr1 : p ≤ pr ∧ pr ≤ 160 := by
    rw [← hpr]
    by_cases c : p < B
    · rw [if_pos c]; omega
    · rw [if_neg c]; omega
  have hbl : ∀ x, p0 ≤ x → x < pr → bl (bya B Sz w x) := fun x y1 y2 => by
    unfold bya
    by_cases c : x < B
    · rw [if_pos c]
      refine p3 x y1 ?_
      rw [← hpr] at y2
      by_cases c2 : p < B
      · rw [if_pos c2] at y2; exact y2
      · omega
    · rw [if_neg c]
      have : x < Sz := by
        rw [← hpr] at y2
        by_cases c2 : p < B
        · rw [if_pos c2] at y2; omega
        · rw [if_neg c2] at y2; exact y2
      rw [if_pos this]; exact Or.inl rfl
  obtain ⟨J', k1, k2, k3, k4⟩ := tok_r (cnt := 999 - (pr - p0)) (J := mm_up J 9 0 25 (nI pr)) (hY.up (nI pr) (j := 25) (by decide) (by decide)) g6 p4 (by rw [mm_get, if_pos ⟨rfl, rfl, rfl⟩, hpr])
  have hs := skip9 (B := B) (Sz := Sz) (t := t) (w := w) (I := I) (pr := pr) (by omega) (pr - p0) p0 (999 - (pr - p0) + 1) J (by omega) hY hbl h25
  rw [show 999 - (pr - p0) + 1 + (pr - p0) = fu by show _ = 1000; omega] at hs
  refine ⟨p, q, I', J', p1, hc, ?_, fun k hk => by rw [g2 k hk, mm_up_ne hk, mm_up_ne hk], fun j hj => by rw [g3 j hj, mm_get, if_neg (by omega), mm_get, if_neg (by omega)], fun k hk => by rw [k2 k hk, mm_up_ne hk], fun j hj => by rw [k3 j hj, mm_get, if_neg (by omega)], g4, g5, g6, k4⟩
  unfold f_X9_next
  rw [hs]; exact k1
