theorem pz_bd_n {α β : Type} {a : α} {f : α → Option β} : pz_bd (some a) f = f a := by
  have : pz_bd (some a) f = f a := rfl
  exact this
theorem pz_lt_n {α β : Type} {a : α} {f : α → β} : pz_lt a f = f a := by
  have : pz_lt a f = f a := rfl
  exact this
theorem m70 {s : Nat} : 7 * 0 + s = s := by omega
theorem m80 {s : Nat} : 8 * 0 + s = s := by omega
/-- the minutes that were begun at -/
def BG (cl ss : Nat) (J : mm_T) : Prop := (∃ m, m ≤ 9 * pc cl ∧ J 9 0 32 = nI m) ∧ ∀ s, s < 7 → tb ss s = true → ∃ m, m < 1000 ∧ J 41 0 s = nI m
theorem hs_c {n P S s : Nat} {I J : mm_T} (A : EA P S I J) (hs : s < S) : f_X1_hasSlip fu n I 0 (nI s) = some 1 := by
  rw [x1_hasSlip A.1.2.2.2.2.1 (by have := A.1.2.1; omega), b01_t (nI_inr (by have := A.1.2.1; omega) hs)]

set_option maxHeartbeats 8000000 in
/-- a slip is called that was not: both sides do the same -/
theorem call_sim {n r P S a cl th ss i s : Nat} {sy : Nat → (Nat → Int32) → Int32} {I J : mm_T} (A : EA P S I J) (T : ET r n sy I J) (Z : ES r P S a cl th ss i I J) (hs : s < S) (hb : tb (cl ||| bu a) s = false) : ∃ I' J' th' ss', f_X0_callSlip fu n I i (nI s) = some I' ∧ f_X9_calls fu J (nI s) = some J' ∧ ES r P S a (sb cl s) th' ss' i I' J' ∧ EF i I I' ∧ RG J J' ∧ I' 14 i = upd (I 14 i) (pc cl) (nI s) ∧ (J' 9 0 33 = J 9 0 33 ∨ ∃ x, J' 9 0 33 = wi 0 x) ∧ (BG cl ss J → BG (sb cl s) ss' J') := by
  obtain ⟨l1, l2, l3⟩ := Z.lt A
  have hP := A.1.1
  have hS := A.1.2.1
  have ha := Z.2.2.1.2.2.2.2
  have e128 : 2 ^ S ≤ 128 := Nat.pow_le_pow_right (n := 2) (by omega) hS
  have hbc : tb cl s = false := by
    rw [bx_osb cl l2 a ha s (by omega)] at hb
    cases h : tb cl s with
    | false => rfl
    | true => rw [h] at hb; cases hb
  have hpc : pc (sb cl s) = pc cl + 1 := by
    have := (bx_pc cl (by omega) s (by omega)).1
    rw [hbc] at this
    exact this
  have hsbS : sb cl s < 2 ^ S := bx_sb cl (by omega) s (by omega) S (by omega) hs Z.2.2.1.2.2.2.1
  have hp7 : pc (sb cl s) ≤ 7 := bx_pcP _ (by omega) 7 (by omega) (by omega)
  have hsl := A.2.2.2 s hs
  obtain ⟨s0, s1, s2, s3, w, hw, s4, len, hlen, s5⟩ := hsl
  obtain ⟨p0, p1, g, hgg, p2⟩ := A.2.2.1 w hw
  have is7 : ix_in (nI s) 7 = true := nI_ix (by omega) (by omega)
  have ig : ix_in (nI g) 8 = true := nI_ix (by omega) (by omega)
  have iw : ix_in (nI w) 8 = true := nI_ix (by omega) (by omega)
  have cs1 : (nI s).toNatClampNeg = s := nI_cl (by omega)
  have cg1 : (nI g).toNatClampNeg = g := nI_cl (by omega)
  have cw1 : (nI w).toNatClampNeg = w := nI_cl (by omega)
  obtain ⟨⟨z1, z10, z11, z12, z14⟩, ⟨z15, y35, zth, z13⟩, ⟨z9, y39, z7, zcl, _⟩, ⟨y40, zss, zw⟩, zg⟩ := Z
  have Z := (⟨⟨z1, z10, z11, z12, z14⟩, ⟨z15, y35, zth, z13⟩, ⟨z9, y39, z7, zcl, ha⟩, ⟨y40, zss, zw⟩, zg⟩ : ES r P S a cl th ss i I J)
  unfold f_X0_callSlip f_X9_calls
  rw [hs_c A hs, pz_bd_s, if_neg (by decide), was_c A Z hs, pz_bd_s, if_pos (b01_f (by rw [hb]; decide)), z7, if_pos (show nI (pc cl) < 7 by rw [show (7 : Int32) = nI 7 from rfl, nI_lt8 (by omega) (by omega)]; omega)]
  simp only [pz_lt_d]
  -- the slip is called
  generalize hI6 : mm_up I 0 i 9 _ = I6
  have i6 : I6 0 i 7 = nI (pc cl) := by rw [← hI6, mm_get, if_neg (by omega), z7]
  rw [i6, pz_gd_t (nI_ix (by omega) (by omega)), nI_cl (by omega)]
  generalize hI9 : mm_up (mm_up I6 14 i (pc cl) (nI s)) 0 i 7 _ = I9
  generalize hJ1 : mm_up J 9 0 39 _ = J1
  have f0 : ∀ k, k ≠ 0 → k ≠ 14 → I9 k = I k := fun k h1 h2 => by rw [← hI9, mm_up_ne h1, mm_up_ne h2, ← hI6, mm_up_ne h1]
  have f0j : ∀ j, j ≠ 7 → j ≠ 9 → I9 0 i j = I 0 i j := fun j h1 h2 => by rw [← hI9, mm_get, if_neg (fun q => h1 q.2.2), mm_up_ne (by decide), ← hI6, mm_get, if_neg (fun q => h2 q.2.2)]
  have f7 : I9 0 i 7 = nI (pc (sb cl s)) := by
    rw [← hI9, mm_get, if_pos ⟨rfl, rfl, rfl⟩, mm_up_ne (by decide), i6, hpc, nI_1]
  have f9 : I9 0 i 9 = nI (sb cl s ||| bu a) := by
    rw [← hI9, mm_get, if_neg (by omega), mm_up_ne (by decide), ← hI6, mm_get, if_pos ⟨rfl, rfl, rfl⟩, z9, bx_set _ (by omega) s (by omega), bx_osb2 cl l2 a ha s (by omega) hb]
  have f14 : I9 14 i = upd (I 14 i) (pc cl) (nI s) := by
    rw [← hI9, mm_up_ne (by decide), mm_up_at, ← hI6, mm_up_ne (by decide)]
  have fn : ∀ k j, j ≠ i → I9 k j = I k j := fun k j hj => by
    rw [← hI9]
    by_cases h0 : k = 0
    · subst h0; rw [mm_up_ni hj, mm_up_ne (by decide), ← hI6, mm_up_ni hj]
    · rw [mm_up_ne h0]
      by_cases h1 : k = 14
      · subst h1; rw [mm_up_ni hj, ← hI6, mm_up_ne h0]
      · rw [mm_up_ne h1, ← hI6, mm_up_ne h0]
  have g0 : ∀ k, k ≠ 9 → J1 k = J k := fun k hk => by rw [← hJ1, mm_up_ne hk]
  have g9 : ∀ j, j ≠ 39 → J1 9 0 j = J 9 0 j := fun j hj => by rw [← hJ1, mm_get, if_neg (fun q => hj q.2.2)]
  have g39 : J1 9 0 39 = nI (sb cl s) := by rw [← hJ1, mm_get, if_pos ⟨rfl, rfl, rfl⟩, y39, bx_set cl (by omega) s (by omega)]
  have F9 : EF i I I9 := ⟨fun k h1 h2 h3 => f0 k h1 (by omega), fun k j h1 _ => fn k j h1⟩
  have G1 : RG J J1 := ⟨fun k h1 _ => g0 k h1, fun j h1 => g9 j (by omega)⟩
  clear hI9 hI6 hJ1
  have A9 : EA P S I9 J1 := A.ev F9 G1
  have T9 : ET r n sy I9 J1 := T.ev F9 G1
  have Z9 : ES r P S a (sb cl s) th ss i I9 J1 := by
    unfold ES
    rw [f0j 1 (by decide) (by decide), f0j 10 (by decide) (by decide), f0j 11 (by decide) (by decide), f0j 12 (by decide) (by decide), f0j 13 (by decide) (by decide), f0j 14 (by decide) (by decide), f0j 15 (by decide) (by decide), f7, f9, f0 15 (by decide) (by decide), f0 11 (by decide) (by decide), f0 12 (by decide) (by decide), g9 32 (by decide), g9 33 (by decide), g9 34 (by decide), g9 35 (by decide), g9 36 (by decide), g9 40 (by decide), g39, g0 39 (by decide), g0 40 (by decide), g0 41 (by decide)]
    exact ⟨⟨z1, z10, z11, z12, z14⟩, ⟨z15, y35, zth, z13⟩, ⟨rfl, rfl, rfl, hsbS, ha⟩, ⟨y40, zss, zw⟩, zg⟩
  rw [would_c A9 Z9 hs, would_r A9 Z9 hs, pz_bd_s, pz_bd_s]
  by_cases hcs : cs P th J1 s = true
  · have n2 : ¬ b01 (cs P th J1 s) = 0 := by rw [hcs]; decide
    rw [if_neg n2, if_neg n2]
    -- it is sung
    have e6 : I9 6 = I 6 := f0 6 (by decide) (by decide)
    have e2 : I9 2 = I 2 := f0 2 (by decide) (by decide)
    unfold f_X1_groupOf
    simp only [pz_gd_t is7, cs1, m70, m80, e6, s3, s4, pz_gd_t iw, cw1, e2, p1, p2, pz_bd_n]
    generalize hI16 : mm_up (mm_up I9 15 i s (I9 0 i 10)) 0 i 10 _ = I16
    generalize hJ7 : mm_up (mm_up J1 41 0 s (J1 9 0 32)) 9 0 32 _ = J7
    have h6 : I16 6 = I 6 := by rw [← hI16, mm_up_ne (by decide), mm_up_ne (by decide), e6]
    have j37 : J1 37 = J 37 := g0 37 (by decide)
    have min1 : I16 0 i 10 = J7 9 0 32 := by
      rw [← hI16, ← hJ7, mm_get, if_pos ⟨rfl, rfl, rfl⟩, mm_get 9 0 32, if_pos ⟨rfl, rfl, rfl⟩, mm_up_ne (by decide), mm_up_ne (by decide), mm_up_ne (by decide), mm_up_ne (by decide), e6, s2, j37, Z9.1.2.1]
    have min7 : J7 9 0 32 = J1 9 0 32 + J1 37 0 s := by rw [← hJ7, mm_get, if_pos ⟨rfl, rfl, rfl⟩, mm_up_ne (by decide), mm_up_ne (by decide)]
    have moo1 : I16 0 i 11 = J7 9 0 33 := by
      rw [← hI16, ← hJ7, mm_get, if_neg (by omega), mm_get 9 0 33, if_neg (by omega), mm_up_ne (by decide), mm_up_ne (by decide)]; exact Z9.1.2.2.1
    have a7 : ∀ k, k ≠ 9 → k ≠ 41 → J7 k = J k := fun k h1 h2 => by rw [← hJ7, mm_up_ne h1, mm_up_ne h2, g0 k h1]
    obtain ⟨x, m1, m2⟩ := moves_sim (n := n) (I := I16) (J := J7) (s := s) (by omega) (by rw [h6, a7 35 (by decide) (by decide)]; exact s0) (by rw [h6, a7 36 (by decide) (by decide)]; exact s1) (J7 9 0 33)
    rw [moo1, m1, m2, pz_bd_s, pz_bd_s, x8_within0, x9_within0, pz_bd_s, pz_bd_s]
    generalize hmo : wi 0 (J7 9 0 33 + x) = mood
    have z38 : ∀ v, mm_up J7 9 0 33 v 38 = J 38 := fun v => by rw [mm_up_ne (by decide), a7 38 (by decide) (by decide)]
    have z34 : ∀ v, mm_up J7 9 0 33 v 34 = J 34 := fun v => by rw [mm_up_ne (by decide), a7 34 (by decide) (by decide)]
    simp only [z38, z34, s4, cw1, p2, pz_gd_t iw, pz_gd_t ig, cg1]
    generalize hI25 : mm_up (mm_up (mm_up (mm_up I16 0 i 11 mood) 11 i g _) 12 i g _) 0 i 14 _ = I25
    generalize hJ20 : mm_up (mm_up (mm_up (mm_up (mm_up J7 9 0 33 mood) 39 0 g _) 40 0 g _) 9 0 36 _) 9 0 40 _ = J20
    have zg' := Z9.2.2.2.2
    have c0 : ∀ k, k ≠ 0 → k ≠ 11 → k ≠ 12 → k ≠ 15 → I25 k = I9 k := fun k h1 h2 h3 h4 => by rw [← hI25, mm_up_ne h1, mm_up_ne h3, mm_up_ne h2, mm_up_ne h1, ← hI16, mm_up_ne h1, mm_up_ne h4]
    have cn : ∀ k j, j ≠ i → I25 k j = I9 k j := fun k j hj => by
      have e : ∀ (M : mm_T) (k' j' : Nat) (v : Int32), mm_up M k' i j' v k j = M k j := fun M k' j' v => by
        by_cases hk : k = k'
        · subst hk; exact mm_up_ni hj
        · rw [mm_up_ne hk]
      rw [← hI25, e, e, e, e, ← hI16, e, e]
    have c0j : ∀ j, j ≠ 10 → j ≠ 11 → j ≠ 14 → I25 0 i j = I9 0 i j := fun j h1 h2 h3 => by
      rw [← hI25, mm_get, if_neg (fun q => h3 q.2.2), mm_up_ne (by decide), mm_up_ne (by decide), mm_get, if_neg (fun q => h2 q.2.2), ← hI16, mm_get, if_neg (fun q => h1 q.2.2), mm_up_ne (by decide)]
    have c10 : I25 0 i 10 = J7 9 0 32 := by
      rw [← hI25, mm_get, if_neg (by omega), mm_up_ne (by decide), mm_up_ne (by decide), mm_get, if_neg (by omega), min1]
    have c11 : I25 0 i 11 = mood := by
      rw [← hI25, mm_get, if_neg (by omega), mm_up_ne (by decide), mm_up_ne (by decide), mm_get, if_pos ⟨rfl, rfl, rfl⟩]
    have i16j : I16 0 i 14 = J1 9 0 36 := by rw [← hI16, mm_get, if_neg (by omega), mm_up_ne (by decide)]; exact Z9.1.2.2.2.2
    have c14 : I25 0 i 14 = J1 9 0 36 + 1 := by
      rw [← hI25, mm_get, if_pos ⟨rfl, rfl, rfl⟩, mm_up_ne (by decide), mm_up_ne (by decide), mm_get, if_neg (by omega), i16j]
    have i16a : I16 11 = I9 11 := by rw [← hI16, mm_up_ne (by decide), mm_up_ne (by decide)]
    have i16b : I16 12 = I9 12 := by rw [← hI16, mm_up_ne (by decide), mm_up_ne (by decide)]
    have c11a : ∀ g', g' < 8 → I25 11 i g' = if g' = g then J7 9 0 32 else J1 39 0 g' := fun g' hg' => by
      rw [← hI25, mm_up_ne (by decide), mm_up_ne (by decide), mm_get]
      by_cases e : g' = g
      · rw [if_pos ⟨rfl, rfl, e⟩, if_pos e, mm_get, if_neg (by omega), min1]
      · rw [if_neg (fun q => e q.2.2), if_neg e, mm_up_ne (by decide), i16a]; exact (zg' g' hg').1
    have c12a : ∀ g', g' < 8 → I25 12 i g' = if g' = g then J1 40 0 g + 1 else J1 40 0 g' := fun g' hg' => by
      rw [← hI25, mm_up_ne (by decide), mm_get]
      by_cases e : g' = g
      · rw [if_pos ⟨rfl, rfl, e⟩, if_pos e, mm_up_ne (by decide), mm_up_ne (by decide), i16b, (zg' g hgg).2]
      · rw [if_neg (fun q => e q.2.2), if_neg e, mm_up_ne (by decide), mm_up_ne (by decide), i16b]; exact (zg' g' hg').2
    have c15a : ∀ t, I25 15 i t = if t = s then J1 9 0 32 else I9 15 i t := fun t => by
      rw [← hI25, mm_up_ne (by decide), mm_up_ne (by decide), mm_up_ne (by decide), mm_up_ne (by decide), ← hI16, mm_up_ne (by decide), mm_get]
      by_cases e : t = s
      · rw [if_pos ⟨rfl, rfl, e⟩, if_pos e]; exact Z9.1.2.1
      · rw [if_neg (fun q => e q.2.2), if_neg e]
    have j7 : ∀ j, j ≠ 32 → J7 9 0 j = J1 9 0 j := fun j hj => by rw [← hJ7, mm_get, if_neg (fun q => hj q.2.2), mm_up_ne (by decide)]
    have d0 : ∀ k, k ≠ 9 → k ≠ 39 → k ≠ 40 → k ≠ 41 → J20 k = J1 k := fun k h1 h2 h3 h4 => by rw [← hJ20, mm_up_ne h1, mm_up_ne h1, mm_up_ne h3, mm_up_ne h2, mm_up_ne h1, a7 k h1 h4, g0 k h1]
    have d9 : ∀ j, j ≠ 32 → j ≠ 33 → j ≠ 36 → j ≠ 40 → J20 9 0 j = J1 9 0 j := fun j h1 h2 h3 h4 => by
      rw [← hJ20, mm_get, if_neg (fun q => h4 q.2.2), mm_get, if_neg (fun q => h3 q.2.2), mm_up_ne (by decide), mm_up_ne (by decide), mm_get, if_neg (fun q => h2 q.2.2), j7 j h1]
    have d32 : J20 9 0 32 = J7 9 0 32 := by
      rw [← hJ20, mm_get, if_neg (by omega), mm_get, if_neg (by omega), mm_up_ne (by decide), mm_up_ne (by decide), mm_get, if_neg (by omega)]
    have d33 : J20 9 0 33 = mood := by
      rw [← hJ20, mm_get, if_neg (by omega), mm_get, if_neg (by omega), mm_up_ne (by decide), mm_up_ne (by decide), mm_get, if_pos ⟨rfl, rfl, rfl⟩]
    have d36 : J20 9 0 36 = J1 9 0 36 + 1 := by
      rw [← hJ20, mm_get, if_neg (by omega), mm_get, if_pos ⟨rfl, rfl, rfl⟩, mm_up_ne (by decide), mm_up_ne (by decide), mm_get, if_neg (by omega), j7 36 (by decide)]
    have d40 : J20 9 0 40 = nI (sb ss s) := by
      rw [← hJ20, mm_get, if_pos ⟨rfl, rfl, rfl⟩, mm_get, if_neg (by omega), mm_up_ne (by decide), mm_up_ne (by decide), mm_get, if_neg (by omega), j7 40 (by decide), g9 40 (by decide), y40, bx_set ss (by omega) s (by omega)]
    have d39a : ∀ g', J20 39 0 g' = if g' = g then J7 9 0 32 else J1 39 0 g' := fun g' => by
      rw [← hJ20, mm_up_ne (by decide), mm_up_ne (by decide), mm_up_ne (by decide), mm_get]
      by_cases e : g' = g
      · rw [if_pos ⟨rfl, rfl, e⟩, if_pos e, mm_get, if_neg (by omega)]
      · rw [if_neg (fun q => e q.2.2), if_neg e, mm_up_ne (by decide), a7 39 (by decide) (by decide), g0 39 (by decide)]
    have d40a : ∀ g', J20 40 0 g' = if g' = g then J1 40 0 g + 1 else J1 40 0 g' := fun g' => by
      rw [← hJ20, mm_up_ne (by decide), mm_up_ne (by decide), mm_get]
      by_cases e : g' = g
      · rw [if_pos ⟨rfl, rfl, e⟩, if_pos e, mm_up_ne (by decide), mm_up_ne (by decide), a7 40 (by decide) (by decide), g0 40 (by decide)]
      · rw [if_neg (fun q => e q.2.2), if_neg e, mm_up_ne (by decide), mm_up_ne (by decide), a7 40 (by decide) (by decide), g0 40 (by decide)]
    have d41a : ∀ t, J20 41 0 t = if t = s then J1 9 0 32 else J1 41 0 t := fun t => by
      rw [← hJ20, mm_up_ne (by decide), mm_up_ne (by decide), mm_up_ne (by decide), mm_up_ne (by decide), mm_up_ne (by decide), ← hJ7, mm_up_ne (by decide), mm_get]
      by_cases e : t = s
      · rw [if_pos ⟨rfl, rfl, e⟩, if_pos e]
      · rw [if_neg (fun q => e q.2.2), if_neg e]
    clear hJ20 hI25 hJ7 hI16
    have F25 : EF i I9 I25 := ⟨fun k h1 h2 h3 => c0 k h1 (by omega) (by omega) (by omega), fun k j h1 _ => cn k j h1⟩
    have G20 : RG J1 J20 := ⟨fun k h1 h2 => d0 k h1 (by omega) (by omega) (by omega), fun j h1 => d9 j (by omega) (by omega) (by omega) (by omega)⟩
    have hss2 : sb ss s < 128 := bx_sb ss (by omega) s (by omega) 7 (by decide) (by omega) (by omega)
    have Z25 : ES r P S a (sb cl s) th (sb ss s) i I25 J20 := by
      obtain ⟨⟨q1, q2, q3, q4, q5⟩, ⟨q6, q7, q8, q9⟩, q10, ⟨q11, q12, q13⟩, q14⟩ := Z9
      unfold ES
      rw [c0j 1 (by decide) (by decide) (by decide), c0j 12 (by decide) (by decide) (by decide), c0j 15 (by decide) (by decide) (by decide), c0j 13 (by decide) (by decide) (by decide), c0j 9 (by decide) (by decide) (by decide), c0j 7 (by decide) (by decide) (by decide), c10, c11, c14, d32, d33, d36, d9 34 (by decide) (by decide) (by decide) (by decide), d9 35 (by decide) (by decide) (by decide) (by decide), d9 39 (by decide) (by decide) (by decide) (by decide), d40]
      refine ⟨⟨q1, rfl, rfl, q4, rfl⟩, ⟨q6, q7, q8, q9⟩, q10, ⟨rfl, hss2, fun t ht hi0 => ?_⟩, fun g' hg' => ⟨by rw [c11a g' hg', d39a], by rw [c12a g' hg', d40a]⟩⟩
      rw [c15a, d41a, (bx_tsb ss (by omega) s (by omega) t (by omega)).1, q13 t ht hi0]
      by_cases e : t = s
      · rw [if_pos e, if_pos e, decide_eq_true e, Bool.or_true, if_pos rfl]
      · rw [if_neg e, if_neg e, decide_eq_false e, Bool.or_false]
    have A25 := A9.ev F25 G20
    have T25 := T9.ev F25 G20
    -- what it takes
    have hth : th < 256 := l1
    obtain ⟨q, f, k1, k2, k3, k4, k5, k6, k7⟩ := say_c T25 Z25.1.1 Z25.1.2.1 Z25.1.2.2.1 Z25.1.2.2.2.1 (part := 1) (by decide) 0 0 (J20 35 0 s)
    obtain ⟨J2, k8, k9⟩ := say_r T25 (part := 1) (by decide) 0 0 (J20 35 0 s)
    obtain ⟨t0, t1, t2, t3, _⟩ := A25.2.2.2 s hs
    have hq1 : q 0 i 1 = nI r := by rw [k2]; exact Z25.1.1
    rw [t0, k1, pz_bd_s, hq1, pz_gd_t (decide_eq_true (show ¬ nI r = -1 from nI_neg1 (by have := T.2.1; omega))), pz_gd_t (decide_eq_true (by rw [nI_cl (by have := T.2.1; omega)]; exact T.1)), show f_X7_worth fu n q (nI r) 1 i = _ from k5, pz_bd_s, Z25.2.1.2.1, bx_bits th hth, pz_bd_s]
    dsimp only
    rw [x8_within1, pz_bd_s, show (mm_row q 29 r f) 0 i 15 = nI th from by rw [mm_row_ne (by decide), k2]; exact Z25.2.1.1, bx_cnt th hth, pz_bd_s]
    obtain ⟨x2, m3, m4⟩ := thirst_sim (n := n) (I := mm_row q 29 r f) (J := J20) (s := s) (by omega) (by rw [k7.1 6 (by decide) (by decide)]; exact t0) (by rw [k7.1 6 (by decide) (by decide)]; exact t1) (nI (pc th))
    rw [m3, m4, pz_bd_s, pz_bd_s, show f_X9_says fu J20 1 0 0 (J20 35 0 s) = _ from k8, pz_bd_s]
    dsimp only
    generalize wi 1 (sy 1 (nm (J20 9 0 32) 0 0 (J20 35 0 s) (J20 9 0 34) (J20 9 0 33))) = v
    generalize (if (0 : Int32) < x2 then x2 else (0 : Int32)) = x3
    rw [show (mm_row q 29 r f) 0 i 12 = J20 9 0 34 from by rw [mm_row_ne (by decide), k2]; exact Z25.1.2.2.2.1]
    generalize hI33 : mm_up (mm_row q 29 r f) 0 i 12 (J20 9 0 34 + x3 * v) = I33
    generalize hJ25 : mm_up J2 9 0 34 (J20 9 0 34 + x3 * v) = J25
    have Z26 := Z25.ask k7 k9
    have u0 : ∀ k, k ≠ 0 → I33 k = mm_row q 29 r f k := fun k hk => by rw [← hI33, mm_up_ne hk]
    have u0j : ∀ j, j ≠ 12 → I33 0 i j = mm_row q 29 r f 0 i j := fun j hj => by rw [← hI33, mm_get, if_neg (fun q => hj q.2.2)]
    have u12 : I33 0 i 12 = J20 9 0 34 + x3 * v := by rw [← hI33, mm_get, if_pos ⟨rfl, rfl, rfl⟩]
    have un : ∀ j, j ≠ i → I33 0 j = mm_row q 29 r f 0 j := fun j hj => by rw [← hI33, mm_up_ni hj]
    have v0 : ∀ k, k ≠ 9 → J25 k = J2 k := fun k hk => by rw [← hJ25, mm_up_ne hk]
    have v0j : ∀ j, j ≠ 34 → J25 9 0 j = J2 9 0 j := fun j hj => by rw [← hJ25, mm_get, if_neg (fun q => hj q.2.2)]
    have v34 : J25 9 0 34 = J20 9 0 34 + x3 * v := by rw [← hJ25, mm_get, if_pos ⟨rfl, rfl, rfl⟩]
    clear hI33 hJ25
    have F33 : EF i I25 I33 := k7.toF.trans ⟨fun k h1 _ _ => u0 k h1, fun k j h1 _ => by
      by_cases hk : k = 0
      · subst hk; exact un j h1
      · rw [u0 k hk]⟩
    have G25 : RG J20 J25 := k9.toG.trans ⟨fun k h1 _ => v0 k h1, fun j h1 => v0j j (by omega)⟩
    have Z33 : ES r P S a (sb cl s) th (sb ss s) i I33 J25 := by
      obtain ⟨⟨q1, q2, q3, q4, q5⟩, ⟨q6, q7, q8, q9⟩, q10, ⟨q11, q12, q13⟩, q14⟩ := Z26
      unfold ES
      rw [u0j 1 (by decide), u0j 10 (by decide), u0j 11 (by decide), u0j 14 (by decide), u0j 15 (by decide), u0j 13 (by decide), u0j 9 (by decide), u0j 7 (by decide), u0 15 (by decide), u0 11 (by decide), u0 12 (by decide), u12, v34, v0j 32 (by decide), v0j 33 (by decide), v0j 36 (by decide), v0j 35 (by decide), v0j 39 (by decide), v0j 40 (by decide), v0 41 (by decide), v0 39 (by decide), v0 40 (by decide)]
      exact ⟨⟨q1, q2, q3, rfl, q5⟩, ⟨q6, q7, q8, q9⟩, q10, ⟨q11, q12, q13⟩, q14⟩
    have A33 := A25.ev F33 G25
    have T33 := T25.ev F33 G25
    have y35' : J25 9 0 35 = nI th := Z33.2.1.2.1
    have eJ : mm_up J25 9 0 35 (nI th) = J25 := by
      funext k' i' j'
      rw [mm_get]
      by_cases e : k' = 9 ∧ i' = 0 ∧ j' = 35
      · rw [if_pos e, e.1, e.2.1, e.2.2, y35']
      · rw [if_neg e]
    obtain ⟨I', J', th', o1, o2, o3, o4, o5, o6⟩ := leave_L (p1 := nI s) P 0 fu I33 J25 th th 0 (by omega) (by show P < 1000; omega) A33 T33 (by rw [eJ]; exact Z33) y35' Z33.2.1.2.2.1 (fun _ _ _ => rfl) (by omega) (fun g' h1 h2 => by rw [show tb 0 g' = false from by unfold tb; rw [Nat.zero_div]; rfl] at h2; cases h2)
    unfold f_X0_letLeave
    rw [show f_X0_letLeave_L4 fu n i fu I33 0 0 = some I' from o1, pz_bd_s, y35']
    refine ⟨I', J', th', sb ss s, rfl, o2, o3, (F9.trans F25).trans (F33.trans o4), (G1.trans G20).trans (G25.trans o5), ?_, Or.inr ⟨J7 9 0 33 + x, by rw [o6.2.1, v0j 33 (by decide), k9.2 33 (by omega), d33, hmo]⟩, fun hB => ?_⟩
    · rw [o6.1, u0 14 (by decide), k7.1 14 (by decide) (by decide), c0 14 (by decide) (by decide) (by decide) (by decide), f14]
    · obtain ⟨⟨m, b1, b2⟩, b3⟩ := hB
      have e32 : J1 9 0 32 = nI m := (g9 32 (by decide)).trans b2
      refine ⟨⟨m + len, by omega, ?_⟩, fun t ht htb => ?_⟩
      · rw [o6.2.2.1, v0j 32 (by decide), k9.2 32 (by omega), d32, min7, e32, j37, s5, nI_add]
      · rw [o6.2.2.2, v0 41 (by decide), k9.1 41 (by decide), d41a]
        by_cases e : t = s
        · rw [if_pos e, e32]; exact ⟨m, by omega, rfl⟩
        · rw [if_neg e, g0 41 (by decide)]
          refine b3 t ht ?_
          rw [(bx_tsb ss (by omega) s (by omega) t (by omega)).1, decide_eq_false e, Bool.or_false] at htb
          exact htb
  · have n2 : b01 (cs P th J1 s) = 0 := b01_f hcs
    rw [if_pos n2, if_pos n2]
    refine ⟨I9, J1, th, ss, rfl, rfl, Z9, F9, G1, f14, Or.inl (g9 33 (by decide)), fun hB => ?_⟩
    obtain ⟨⟨m, b1, b2⟩, b3⟩ := hB
    refine ⟨⟨m, by omega, by rw [g9 32 (by decide)]; exact b2⟩, fun t ht htb => by rw [g0 41 (by decide)]; exact b3 t ht htb⟩
