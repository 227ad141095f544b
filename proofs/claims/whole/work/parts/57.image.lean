/-! ===== image, back ===== -/
theorem upd_at {f : Nat → Int32} {j : Nat} {v : Int32} : upd f j v j = v := if_pos rfl
theorem upd_ne {f : Nat → Int32} {j c : Nat} {v : Int32} (h : c ≠ j) : upd f j v c = f c := if_neg h
set_option maxHeartbeats 4000000 in
theorem bc31 {N n i0 i1 : Nat} (h0 : i0 < 2) (h1 : i1 < 2) (hne : i0 ≠ i1) : ∀ (cnt q : Nat) (I : mm_T), q ≤ 7 → 7 < q + cnt → ∃ I', f_X1_become_L31 N n i0 i1 cnt I (nI q) = some I' ∧ (∀ k, k ≠ 1 → k ≠ 6 → I' k = I k) ∧ (∀ s j, q ≤ s → s < 7 → j < 4 → I' 6 (7 * i0 + s) j = I 6 (7 * i1 + s) j) ∧ (∀ b, (b < 7 * i0 + q ∨ 7 * i0 + 7 ≤ b) → I' 6 b = I 6 b) ∧ (∀ b, b ≠ i0 → I' 1 b = I 1 b) ∧ (∀ j, 2 ≤ j → j < 7 → I' 1 i0 j = I 1 i1 j) ∧ I' 1 i0 7 = I 1 i0 7 + 1 := by
  intro cnt
  induction cnt with
  | zero => intro q I hq hc; omega
  | succ cnt ih =>
    intro q I hq hc
    rw [f_X1_become_L31]
    by_cases h7 : q = 7
    · subst h7
      rw [if_pos (by decide)]
      simp only [pz_lt_d]
      refine ⟨_, rfl, ?_, ?_, ?_, ?_, ?_, ?_⟩
      · intro k a b
        simp only [mm_up_ne a]
      · intro s j a b; omega
      · intro b hb
        simp only [mm_up_ne (show (6 : Nat) ≠ 1 by decide)]
      · intro b hb
        simp only [mm_up_ni hb]
      · intro j a b
        have e : ∀ c : Nat, 1 = 1 ∧ i1 = i0 ∧ c = c ↔ False := fun c => by simp [Ne.symm hne]
        rcases (show j = 2 ∨ j = 3 ∨ j = 4 ∨ j = 5 ∨ j = 6 by omega) with rfl | rfl | rfl | rfl | rfl <;> simp [mm_get, Ne.symm hne]
      · simp [mm_get]
    · have hq7 : q < 7 := by omega
      rw [if_neg (show ¬ (7 : Int32) ≤ nI q from nI_ge (b := 7) hq7 (by decide)), pz_gd_t (nI_ix hq7 (by decide)), pz_gd_t (nI_ix hq7 (by decide)), nI_cl (by omega)]
      unfold f_X6_become
      simp only [pz_lt_d, pz_bd_s, nI_1]
      obtain ⟨I1, hI1⟩ : ∃ z, z = mm_up I 6 (7 * i0 + q) 0 (I 6 (7 * i1 + q) 0) := ⟨_, rfl⟩
      rw [← hI1]
      obtain ⟨I2, hI2⟩ : ∃ z, z = mm_up I1 6 (7 * i0 + q) 1 (I1 6 (7 * i1 + q) 1) := ⟨_, rfl⟩
      rw [← hI2]
      obtain ⟨I3, hI3⟩ : ∃ z, z = mm_up I2 6 (7 * i0 + q) 2 (I2 6 (7 * i1 + q) 2) := ⟨_, rfl⟩
      rw [← hI3]
      obtain ⟨I4, hI4⟩ : ∃ z, z = mm_up I3 6 (7 * i0 + q) 3 (I3 6 (7 * i1 + q) 3) := ⟨_, rfl⟩
      rw [← hI4]
      have hd : ∀ s, s < 7 → 7 * i1 + s ≠ 7 * i0 + q := fun s hs => by omega
      have k4 : ∀ k, k ≠ 6 → I4 k = I k := fun k hk => by rw [hI4, mm_up_ne hk, hI3, mm_up_ne hk, hI2, mm_up_ne hk, hI1, mm_up_ne hk]
      have b4 : ∀ b, b ≠ 7 * i0 + q → I4 6 b = I 6 b := fun b hb => by rw [hI4, mm_up_ni hb, hI3, mm_up_ni hb, hI2, mm_up_ni hb, hI1, mm_up_ni hb]
      have b1 : I1 6 (7 * i1 + q) = I 6 (7 * i1 + q) := by rw [hI1, mm_up_ni (hd q hq7)]
      have b2 : I2 6 (7 * i1 + q) = I 6 (7 * i1 + q) := by rw [hI2, mm_up_ni (hd q hq7)]; exact b1
      have b3 : I3 6 (7 * i1 + q) = I 6 (7 * i1 + q) := by rw [hI3, mm_up_ni (hd q hq7)]; exact b2
      have c4 : ∀ j, j < 4 → I4 6 (7 * i0 + q) j = I 6 (7 * i1 + q) j := by
        intro j hj
        rcases (show j = 0 ∨ j = 1 ∨ j = 2 ∨ j = 3 by omega) with rfl | rfl | rfl | rfl
        · rw [hI4, up_facts.2.2.1 0 (by decide), hI3, up_facts.2.2.1 0 (by decide), hI2, up_facts.2.2.1 0 (by decide), hI1, up_facts.2.2.2]
        · rw [hI4, up_facts.2.2.1 1 (by decide), hI3, up_facts.2.2.1 1 (by decide), hI2, up_facts.2.2.2, b1]
        · rw [hI4, up_facts.2.2.1 2 (by decide), hI3, up_facts.2.2.2, b2]
        · rw [hI4, up_facts.2.2.2, b3]
      obtain ⟨I', e, f1, f2, f3, f4, f5, f6⟩ := ih (q + 1) I4 (by omega) (by omega)
      refine ⟨I', e, fun k a b => by rw [f1 k a b, k4 k b], fun s j a b c => ?_, fun b hb => by rw [f3 b (by omega), b4 b (by omega)], fun b hb => by rw [f4 b hb, k4 1 (by decide)], fun j a b => by rw [f5 j a b, k4 1 (by decide)], by rw [f6, k4 1 (by decide)]⟩
      by_cases hs : s = q
      · subst hs
        rw [f3 (7 * i0 + s) (by omega)]; exact c4 j c
      · rw [f2 s j (by omega) b c, b4 _ (hd s b)]
theorem bc2 {N n i0 i1 : Nat} (hN : 7 < N) (h0 : i0 < 2) (h1 : i1 < 2) (hne : i0 ≠ i1) : ∀ (cnt q : Nat) (I : mm_T), q ≤ 8 → 8 < q + cnt → ∃ I', f_X1_become_L2 N n i0 i1 cnt I (nI q) = some I' ∧ (∀ k, k ≠ 1 → k ≠ 2 → k ≠ 6 → I' k = I k) ∧ (∀ p j, q ≤ p → p < 8 → j < 2 → I' 2 (8 * i0 + p) j = I 2 (8 * i1 + p) j) ∧ (∀ b, (b < 8 * i0 + q ∨ 8 * i0 + 8 ≤ b) → I' 2 b = I 2 b) ∧ (∀ s j, s < 7 → j < 4 → I' 6 (7 * i0 + s) j = I 6 (7 * i1 + s) j) ∧ (∀ b, (b < 7 * i0 ∨ 7 * i0 + 7 ≤ b) → I' 6 b = I 6 b) ∧ (∀ b, b ≠ i0 → I' 1 b = I 1 b) ∧ (∀ j, 2 ≤ j → j < 7 → I' 1 i0 j = I 1 i1 j) ∧ I' 1 i0 7 = I 1 i0 7 + 1 := by
  intro cnt
  induction cnt with
  | zero => intro q I hq hc; omega
  | succ cnt ih =>
    intro q I hq hc
    rw [f_X1_become_L2]
    by_cases h7 : q = 8
    · subst h7
      rw [if_pos (by decide)]
      obtain ⟨I', e, f1, f2, f3, f4, f5, f6⟩ := bc31 (N := N) (n := n) h0 h1 hne N 0 I (by omega) (by omega)
      refine ⟨I', e, fun k a b c => f1 k a c, fun p j a b => by omega, fun b hb => by rw [f1 2 (by decide) (by decide)], fun s j a b => f2 s j (by omega) a b, fun b hb => f3 b (by omega), f4, f5, f6⟩
    · have hq7 : q < 8 := by omega
      rw [if_neg (show ¬ (8 : Int32) ≤ nI q from nI_ge (b := 8) hq7 (by decide)), pz_gd_t (nI_ix hq7 (by decide)), pz_gd_t (nI_ix hq7 (by decide)), nI_cl (by omega)]
      unfold f_X2_become
      simp only [pz_lt_d, pz_bd_s, nI_1]
      obtain ⟨I1, hI1⟩ : ∃ z, z = mm_up I 2 (8 * i0 + q) 0 (I 2 (8 * i1 + q) 0) := ⟨_, rfl⟩
      rw [← hI1]
      obtain ⟨I2, hI2⟩ : ∃ z, z = mm_up I1 2 (8 * i0 + q) 1 (I1 2 (8 * i1 + q) 1) := ⟨_, rfl⟩
      rw [← hI2]
      have hd : ∀ s, s < 8 → 8 * i1 + s ≠ 8 * i0 + q := fun s hs => by omega
      have k4 : ∀ k, k ≠ 2 → I2 k = I k := fun k hk => by rw [hI2, mm_up_ne hk, hI1, mm_up_ne hk]
      have b4 : ∀ b, b ≠ 8 * i0 + q → I2 2 b = I 2 b := fun b hb => by rw [hI2, mm_up_ni hb, hI1, mm_up_ni hb]
      have b1 : I1 2 (8 * i1 + q) = I 2 (8 * i1 + q) := by rw [hI1, mm_up_ni (hd q hq7)]
      have c4 : ∀ j, j < 2 → I2 2 (8 * i0 + q) j = I 2 (8 * i1 + q) j := by
        intro j hj
        rcases (show j = 0 ∨ j = 1 by omega) with rfl | rfl
        · rw [hI2, up_facts.2.2.1 0 (by decide), hI1, up_facts.2.2.2]
        · rw [hI2, up_facts.2.2.2, b1]
      obtain ⟨I', e, f1, f2, f3, f4, f5, f6, f7, f8⟩ := ih (q + 1) I2 (by omega) (by omega)
      refine ⟨I', e, fun k a b c => by rw [f1 k a b c, k4 k b], fun s j a b c => ?_, fun b hb => by rw [f3 b (by omega), b4 b (by omega)], fun s j a b => by rw [f4 s j a b, k4 6 (by decide)], fun b hb => by rw [f5 b hb, k4 6 (by decide)], fun b hb => by rw [f6 b hb, k4 1 (by decide)], fun j a b => by rw [f7 j a b, k4 1 (by decide)], by rw [f8, k4 1 (by decide)]⟩
      by_cases hs : s = q
      · subst hs
        rw [f3 (8 * i0 + s) (by omega)]; exact c4 j c
      · rw [f2 s j (by omega) b c, b4 _ (hd s b)]
set_option maxHeartbeats 4000000 in
theorem im43 {N : Nat} : ∀ (cnt q : Nat) (J : mm_T), q ≤ 7 → 7 < q + cnt → ∃ J', f_X9_image_L43 N cnt J (nI q) = some (J', J 9 0 14) ∧ (∀ k, k ≠ 9 → k ≠ 46 → J' k = J k) ∧ (∀ s, q ≤ s → s < 7 → J' 46 0 s = J 36 0 s ∧ J' 46 0 (7 + s) = J 37 0 s ∧ J' 46 0 (14 + s) = J 38 0 s) ∧ (∀ s, s < q → J' 46 0 s = J 46 0 s ∧ J' 46 0 (7 + s) = J 46 0 (7 + s) ∧ J' 46 0 (14 + s) = J 46 0 (14 + s)) ∧ (∀ j, (j < 52 ∨ 56 < j) → J' 9 0 j = J 9 0 j) ∧ J' 9 0 52 = J 9 0 14 ∧ J' 9 0 53 = J 9 0 9 ∧ J' 9 0 54 = J 9 0 15 ∧ J' 9 0 55 = J 9 0 16 ∧ J' 9 0 56 = J 9 0 4 := by
  intro cnt
  induction cnt with
  | zero => intro q J hq hc; omega
  | succ cnt ih =>
    intro q J hq hc
    rw [f_X9_image_L43]
    by_cases h7 : q = 7
    · subst h7
      rw [if_pos (by decide)]
      simp only [pz_lt_d]
      refine ⟨mm_up (mm_up (mm_up (mm_up (mm_up J 9 0 52 (J 9 0 14)) 9 0 53 (J 9 0 9)) 9 0 54 (J 9 0 15)) 9 0 55 (J 9 0 16)) 9 0 56 (J 9 0 4), by simp only [mm_get]; simp, ?_, ?_, ?_, ?_, ?_⟩
      · intro k a b
        simp only [mm_up_ne a]
      · intro s a b; omega
      · intro s a
        simp [mm_up_ne (show (46 : Nat) ≠ 9 by decide)]
      · intro j hj
        simp only [mm_get]
        simp [show j ≠ 52 by omega, show j ≠ 53 by omega, show j ≠ 54 by omega, show j ≠ 55 by omega, show j ≠ 56 by omega]
      · simp [mm_get]
    · have hq7 : q < 7 := by omega
      have e7 : (7 : Int32) + nI q = nI (7 + q) := nI_add 7 q
      have e14 : (14 : Int32) + nI q = nI (14 + q) := nI_add 14 q
      rw [if_neg (show ¬ (7 : Int32) ≤ nI q from nI_ge (b := 7) hq7 (by decide)), e7, e14, pz_gd_t (nI_ix hq7 (by decide)), pz_gd_t (nI_ix (show q < 21 by omega) (by decide)), nI_cl (show q < 2147483648 by omega), nI_cl (show 7 + q < 2147483648 by omega), nI_cl (show 14 + q < 2147483648 by omega)]
      simp only [pz_gd_t (nI_ix (show q < 7 by omega) (show 7 < 2147483648 by decide)), pz_gd_t (nI_ix (show 7 + q < 21 by omega) (show 21 < 2147483648 by decide)), pz_gd_t (nI_ix (show 14 + q < 21 by omega) (show 21 < 2147483648 by decide)), pz_lt_d, nI_1, mm_up_ne (show (37 : Nat) ≠ 46 by decide), mm_up_ne (show (38 : Nat) ≠ 46 by decide)]
      obtain ⟨J3, hJ3⟩ : ∃ z, z = mm_up (mm_up (mm_up J 46 0 q (J 36 0 q)) 46 0 (7 + q) (J 37 0 q)) 46 0 (14 + q) (J 38 0 q) := ⟨_, rfl⟩
      rw [← hJ3]
      have k3 : ∀ k, k ≠ 46 → J3 k = J k := fun k hk => by rw [hJ3, mm_up_ne hk, mm_up_ne hk, mm_up_ne hk]
      have v3 : ∀ c, c ≠ q → c ≠ 7 + q → c ≠ 14 + q → J3 46 0 c = J 46 0 c := fun c a b d => by rw [hJ3, up_facts.2.2.1 c d, up_facts.2.2.1 c b, up_facts.2.2.1 c a]
      have v0 : J3 46 0 q = J 36 0 q := by rw [hJ3, up_facts.2.2.1 q (by omega), up_facts.2.2.1 q (by omega), up_facts.2.2.2]
      have v7 : J3 46 0 (7 + q) = J 37 0 q := by rw [hJ3, up_facts.2.2.1 (7 + q) (by omega), up_facts.2.2.2]
      have v14 : J3 46 0 (14 + q) = J 38 0 q := by rw [hJ3, up_facts.2.2.2]
      obtain ⟨J', e, f1, f2, f3, f4, f5, f6, f7, f8, f9⟩ := ih (q + 1) J3 (by omega) (by omega)
      have k9 := k3 9 (by decide)
      refine ⟨J', by rw [e, k9], fun k a b => by rw [f1 k a b, k3 k b], fun s a b => ?_, fun s a => ?_, fun j hj => by rw [f4 j hj, k9], by rw [f5, k9], by rw [f6, k9], by rw [f7, k9], by rw [f8, k9], by rw [f9, k9]⟩
      · by_cases hs : s = q
        · subst hs
          obtain ⟨g1, g2, g3⟩ := f3 s (by omega)
          rw [g1, g2, g3]; exact ⟨v0, v7, v14⟩
        · obtain ⟨g1, g2, g3⟩ := f2 s (by omega) b
          rw [g1, g2, g3, k3 36 (by decide), k3 37 (by decide), k3 38 (by decide)]; exact ⟨rfl, rfl, rfl⟩
      · obtain ⟨g1, g2, g3⟩ := f3 s (by omega)
        rw [g1, g2, g3]; exact ⟨v3 s (by omega) (by omega) (by omega), v3 _ (by omega) (by omega) (by omega), v3 _ (by omega) (by omega) (by omega)⟩
set_option maxHeartbeats 4000000 in
theorem im2 {N : Nat} (hN : 7 < N) : ∀ (cnt q : Nat) (J : mm_T), q ≤ 8 → 8 < q + cnt → ∃ J', f_X9_image_L2 N cnt J (nI q) = some (J', J 9 0 14) ∧ (∀ k, k ≠ 9 → k ≠ 45 → k ≠ 46 → J' k = J k) ∧ (∀ p, q ≤ p → p < 8 → J' 45 0 p = J 33 0 p ∧ J' 45 0 (8 + p) = J 34 0 p) ∧ (∀ p, p < q → J' 45 0 p = J 45 0 p ∧ J' 45 0 (8 + p) = J 45 0 (8 + p)) ∧ (∀ s, s < 7 → J' 46 0 s = J 36 0 s ∧ J' 46 0 (7 + s) = J 37 0 s ∧ J' 46 0 (14 + s) = J 38 0 s) ∧ (∀ j, (j < 52 ∨ 56 < j) → J' 9 0 j = J 9 0 j) ∧ J' 9 0 52 = J 9 0 14 ∧ J' 9 0 53 = J 9 0 9 ∧ J' 9 0 54 = J 9 0 15 ∧ J' 9 0 55 = J 9 0 16 ∧ J' 9 0 56 = J 9 0 4 := by
  intro cnt
  induction cnt with
  | zero => intro q J hq hc; omega
  | succ cnt ih =>
    intro q J hq hc
    rw [f_X9_image_L2]
    by_cases h7 : q = 8
    · subst h7
      rw [if_pos (by decide)]
      obtain ⟨J', e, f1, f2, f3, f4⟩ := im43 (N := N) N 0 J (by omega) (by omega)
      exact ⟨J', e, fun k a b c => f1 k a c, fun p a b => by omega, fun p a => by rw [f1 45 (by decide) (by decide)]; exact ⟨rfl, rfl⟩, fun s a => f2 s (by omega) a, f4⟩
    · have hq7 : q < 8 := by omega
      have e8 : (8 : Int32) + nI q = nI (8 + q) := nI_add 8 q
      rw [if_neg (show ¬ (8 : Int32) ≤ nI q from nI_ge (b := 8) hq7 (by decide)), e8, nI_cl (show q < 2147483648 by omega), nI_cl (show 8 + q < 2147483648 by omega)]
      simp only [pz_gd_t (nI_ix (show q < 8 by omega) (show 8 < 2147483648 by decide)), pz_gd_t (nI_ix (show q < 16 by omega) (show 16 < 2147483648 by decide)), pz_gd_t (nI_ix (show 8 + q < 16 by omega) (show 16 < 2147483648 by decide)), pz_lt_d, nI_1, mm_up_ne (show (34 : Nat) ≠ 45 by decide)]
      obtain ⟨J3, hJ3⟩ : ∃ z, z = mm_up (mm_up J 45 0 q (J 33 0 q)) 45 0 (8 + q) (J 34 0 q) := ⟨_, rfl⟩
      rw [← hJ3]
      have k3 : ∀ k, k ≠ 45 → J3 k = J k := fun k hk => by rw [hJ3, mm_up_ne hk, mm_up_ne hk]
      have v3 : ∀ c, c ≠ q → c ≠ 8 + q → J3 45 0 c = J 45 0 c := fun c a b => by rw [hJ3, up_facts.2.2.1 c b, up_facts.2.2.1 c a]
      have v0 : J3 45 0 q = J 33 0 q := by rw [hJ3, up_facts.2.2.1 q (by omega), up_facts.2.2.2]
      have v7 : J3 45 0 (8 + q) = J 34 0 q := by rw [hJ3, up_facts.2.2.2]
      obtain ⟨J', e, f1, f2, f3, f10, f4, f5, f6, f7, f8, f9⟩ := ih (q + 1) J3 (by omega) (by omega)
      have k9 := k3 9 (by decide)
      refine ⟨J', by rw [e, k9], fun k a b c => by rw [f1 k a b c, k3 k b], fun s a b => ?_, fun s a => ?_, fun s a => by rw [(f10 s a).1, (f10 s a).2.1, (f10 s a).2.2, k3 36 (by decide), k3 37 (by decide), k3 38 (by decide)]; exact ⟨rfl, rfl, rfl⟩, fun j hj => by rw [f4 j hj, k9], by rw [f5, k9], by rw [f6, k9], by rw [f7, k9], by rw [f8, k9], by rw [f9, k9]⟩
      · by_cases hs : s = q
        · subst hs
          obtain ⟨g1, g2⟩ := f3 s (by omega)
          rw [g1, g2]; exact ⟨v0, v7⟩
        · obtain ⟨g1, g2⟩ := f2 s (by omega) b
          rw [g1, g2, k3 33 (by decide), k3 34 (by decide)]; exact ⟨rfl, rfl⟩
      · obtain ⟨g1, g2⟩ := f3 s (by omega)
        rw [g1, g2]; exact ⟨v3 s (by omega) (by omega), v3 _ (by omega) (by omega)⟩
set_option maxHeartbeats 4000000 in
theorem bk54 {N : Nat} : ∀ (cnt q : Nat) (J : mm_T), q ≤ 7 → 7 < q + cnt → ∃ J', f_X9_back_L54 N cnt J (nI q) = some (J', J 9 0 52) ∧ (∀ k, k ≠ 9 → k ≠ 36 → k ≠ 37 → k ≠ 38 → J' k = J k) ∧ (∀ s, q ≤ s → s < 7 → J' 36 0 s = J 46 0 s ∧ J' 37 0 s = J 46 0 (7 + s) ∧ J' 38 0 s = J 46 0 (14 + s)) ∧ (∀ s, s < q → J' 36 0 s = J 36 0 s ∧ J' 37 0 s = J 37 0 s ∧ J' 38 0 s = J 38 0 s) ∧ (∀ j, j ≠ 4 → j ≠ 9 → j ≠ 14 → j ≠ 15 → j ≠ 16 → J' 9 0 j = J 9 0 j) ∧ J' 9 0 14 = J 9 0 52 ∧ J' 9 0 9 = J 9 0 53 ∧ J' 9 0 15 = J 9 0 54 ∧ J' 9 0 16 = J 9 0 55 ∧ J' 9 0 4 = J 9 0 56 := by
  intro cnt
  induction cnt with
  | zero => intro q J hq hc; omega
  | succ cnt ih =>
    intro q J hq hc
    rw [f_X9_back_L54]
    by_cases h7 : q = 7
    · subst h7
      rw [if_pos (by decide)]
      simp only [pz_lt_d]
      refine ⟨mm_up (mm_up (mm_up (mm_up (mm_up J 9 0 14 (J 9 0 52)) 9 0 9 (J 9 0 53)) 9 0 15 (J 9 0 54)) 9 0 16 (J 9 0 55)) 9 0 4 (J 9 0 56), by simp only [mm_get]; simp, ?_, ?_, ?_, ?_, ?_⟩
      · intro k a b c d
        simp only [mm_up_ne a]
      · intro s a b; omega
      · intro s a
        simp [mm_up_ne (show (36 : Nat) ≠ 9 by decide), mm_up_ne (show (37 : Nat) ≠ 9 by decide), mm_up_ne (show (38 : Nat) ≠ 9 by decide)]
      · intro j a b c d e
        simp only [mm_get]
        simp [a, b, c, d, e]
      · simp [mm_get]
    · have hq7 : q < 7 := by omega
      have e7 : (7 : Int32) + nI q = nI (7 + q) := nI_add 7 q
      have e14 : (14 : Int32) + nI q = nI (14 + q) := nI_add 14 q
      rw [if_neg (show ¬ (7 : Int32) ≤ nI q from nI_ge (b := 7) hq7 (by decide)), e7, e14, nI_cl (show q < 2147483648 by omega), nI_cl (show 7 + q < 2147483648 by omega), nI_cl (show 14 + q < 2147483648 by omega)]
      simp only [pz_gd_t (nI_ix (show q < 7 by omega) (show 7 < 2147483648 by decide)), pz_gd_t (nI_ix (show q < 21 by omega) (show 21 < 2147483648 by decide)), pz_gd_t (nI_ix (show 7 + q < 21 by omega) (show 21 < 2147483648 by decide)), pz_gd_t (nI_ix (show 14 + q < 21 by omega) (show 21 < 2147483648 by decide)), pz_lt_d, nI_1, mm_up_ne (show (46 : Nat) ≠ 36 by decide), mm_up_ne (show (46 : Nat) ≠ 37 by decide)]
      obtain ⟨J3, hJ3⟩ : ∃ z, z = mm_up (mm_up (mm_up J 36 0 q (J 46 0 q)) 37 0 q (J 46 0 (7 + q))) 38 0 q (J 46 0 (14 + q)) := ⟨_, rfl⟩
      rw [← hJ3]
      have k3 : ∀ k, k ≠ 36 → k ≠ 37 → k ≠ 38 → J3 k = J k := fun k a b c => by rw [hJ3, mm_up_ne c, mm_up_ne b, mm_up_ne a]
      have v3 : ∀ c, c ≠ q → J3 36 0 c = J 36 0 c ∧ J3 37 0 c = J 37 0 c ∧ J3 38 0 c = J 38 0 c := fun c a => by simp [hJ3, mm_get, a]
      have v0 : J3 36 0 q = J 46 0 q ∧ J3 37 0 q = J 46 0 (7 + q) ∧ J3 38 0 q = J 46 0 (14 + q) := by simp [hJ3, mm_get]
      obtain ⟨J', e, f1, f2, f3, f4, f5, f6, f7, f8, f9⟩ := ih (q + 1) J3 (by omega) (by omega)
      have k9 := k3 9 (by decide) (by decide) (by decide)
      refine ⟨J', by rw [e, k9], fun k a b c d => by rw [f1 k a b c d, k3 k b c d], fun s a b => ?_, fun s a => ?_, fun j a b c d x => by rw [f4 j a b c d x, k9], by rw [f5, k9], by rw [f6, k9], by rw [f7, k9], by rw [f8, k9], by rw [f9, k9]⟩
      · by_cases hs : s = q
        · subst hs
          obtain ⟨g1, g2, g3⟩ := f3 s (by omega)
          rw [g1, g2, g3]; exact v0
        · obtain ⟨g1, g2, g3⟩ := f2 s (by omega) b
          rw [g1, g2, g3, k3 46 (by decide) (by decide) (by decide)]; exact ⟨rfl, rfl, rfl⟩
      · obtain ⟨g1, g2, g3⟩ := f3 s (by omega)
        rw [g1, g2, g3]; exact v3 s (by omega)
set_option maxHeartbeats 4000000 in
theorem bk13 {N : Nat} (hN : 7 < N) : ∀ (cnt q : Nat) (J : mm_T), q ≤ 8 → 8 < q + cnt → ∃ J', f_X9_back_L13 N cnt J (nI q) = some (J', J 9 0 52) ∧ (∀ k, k ≠ 9 → k ≠ 33 → k ≠ 34 → k ≠ 36 → k ≠ 37 → k ≠ 38 → J' k = J k) ∧ (∀ p, q ≤ p → p < 8 → J' 33 0 p = J 45 0 p ∧ J' 34 0 p = J 45 0 (8 + p)) ∧ (∀ p, p < q → J' 33 0 p = J 33 0 p ∧ J' 34 0 p = J 34 0 p) ∧ (∀ s, s < 7 → J' 36 0 s = J 46 0 s ∧ J' 37 0 s = J 46 0 (7 + s) ∧ J' 38 0 s = J 46 0 (14 + s)) ∧ (∀ j, j ≠ 4 → j ≠ 9 → j ≠ 14 → j ≠ 15 → j ≠ 16 → J' 9 0 j = J 9 0 j) ∧ J' 9 0 14 = J 9 0 52 ∧ J' 9 0 9 = J 9 0 53 ∧ J' 9 0 15 = J 9 0 54 ∧ J' 9 0 16 = J 9 0 55 ∧ J' 9 0 4 = J 9 0 56 := by
  intro cnt
  induction cnt with
  | zero => intro q J hq hc; omega
  | succ cnt ih =>
    intro q J hq hc
    rw [f_X9_back_L13]
    by_cases h7 : q = 8
    · subst h7
      rw [if_pos (by decide)]
      obtain ⟨J', e, f1, f2, f3, f4⟩ := bk54 (N := N) N 0 J (by omega) (by omega)
      exact ⟨J', e, fun k a b c d x y => f1 k a d x y, fun p a b => by omega, fun p a => by rw [f1 33 (by decide) (by decide) (by decide) (by decide), f1 34 (by decide) (by decide) (by decide) (by decide)]; exact ⟨rfl, rfl⟩, fun s a => f2 s (by omega) a, f4⟩
    · have hq7 : q < 8 := by omega
      have e8 : (8 : Int32) + nI q = nI (8 + q) := nI_add 8 q
      rw [if_neg (show ¬ (8 : Int32) ≤ nI q from nI_ge (b := 8) hq7 (by decide)), e8, nI_cl (show q < 2147483648 by omega), nI_cl (show 8 + q < 2147483648 by omega)]
      simp only [pz_gd_t (nI_ix (show q < 8 by omega) (show 8 < 2147483648 by decide)), pz_gd_t (nI_ix (show q < 16 by omega) (show 16 < 2147483648 by decide)), pz_gd_t (nI_ix (show 8 + q < 16 by omega) (show 16 < 2147483648 by decide)), pz_lt_d, nI_1, mm_up_ne (show (45 : Nat) ≠ 33 by decide)]
      obtain ⟨J3, hJ3⟩ : ∃ z, z = mm_up (mm_up J 33 0 q (J 45 0 q)) 34 0 q (J 45 0 (8 + q)) := ⟨_, rfl⟩
      rw [← hJ3]
      have k3 : ∀ k, k ≠ 33 → k ≠ 34 → J3 k = J k := fun k a b => by rw [hJ3, mm_up_ne b, mm_up_ne a]
      have v3 : ∀ c, c ≠ q → J3 33 0 c = J 33 0 c ∧ J3 34 0 c = J 34 0 c := fun c a => by simp [hJ3, mm_get, a]
      have v0 : J3 33 0 q = J 45 0 q ∧ J3 34 0 q = J 45 0 (8 + q) := by simp [hJ3, mm_get]
      obtain ⟨J', e, f1, f2, f3, f10, f4, f5, f6, f7, f8, f9⟩ := ih (q + 1) J3 (by omega) (by omega)
      have k9 := k3 9 (by decide) (by decide)
      have k46 := k3 46 (by decide) (by decide)
      refine ⟨J', by rw [e, k9], fun k a b c d x y => by rw [f1 k a b c d x y, k3 k b c], fun s a b => ?_, fun s a => ?_, fun s a => by rw [(f10 s a).1, (f10 s a).2.1, (f10 s a).2.2, k46]; exact ⟨rfl, rfl, rfl⟩, fun j a b c d x => by rw [f4 j a b c d x, k9], by rw [f5, k9], by rw [f6, k9], by rw [f7, k9], by rw [f8, k9], by rw [f9, k9]⟩
      · by_cases hs : s = q
        · subst hs
          obtain ⟨g1, g2⟩ := f3 s (by omega)
          rw [g1, g2]; exact v0
        · obtain ⟨g1, g2⟩ := f2 s (by omega) b
          rw [g1, g2, k3 45 (by decide) (by decide)]; exact ⟨rfl, rfl⟩
      · obtain ⟨g1, g2⟩ := f3 s (by omega)
        rw [g1, g2]; exact v3 s (by omega)
theorem sim_image : sm_image Inv := by
  intro k n I J hk h
  obtain ⟨c, hc, P, S, r, tc, B, h1, H, K, T, SS, X, C⟩ := h
  have H0 := H
  obtain ⟨⟨g1, g2, g3, g4, g5, g6⟩, ⟨q1, q2, q3, q4, q5, q6⟩, hP, hS⟩ := H0
  obtain ⟨I1, e1, a1, a2, a3, a4, a5, a6, a7, a8⟩ := bc2 (N := fu) (n := n) (i0 := 1) (i1 := 0) (by decide) (by decide) (by decide) (by decide) fu 0 I (by omega) (by decide)
  obtain ⟨J', e2, b1, b2, b3, b4, b5, b6, b7, b8, b9, b10⟩ := im2 (N := fu) (by decide) fu 0 J (by omega) (by decide)
  obtain ⟨I', hI'⟩ : ∃ z, z = mm_up I1 8 0 2 1 := ⟨_, rfl⟩
  have k8 : ∀ k, k ≠ 8 → I' k = I1 k := fun k hk => by rw [hI', mm_up_ne hk]
  have hIk : ∀ k, k ≠ 1 → k ≠ 2 → k ≠ 6 → k ≠ 8 → I' k = I k := fun k a b c d => by rw [k8 k d, a1 k a b c]
  have i10 : I' 1 0 = I 1 0 := by rw [k8 1 (by decide), a6 0 (by decide)]
  have i2 : ∀ p, p < 8 → I' 2 p = I 2 p := fun p hp => by rw [k8 2 (by decide), a3 p (by omega)]
  have i6 : ∀ s, s < 7 → I' 6 s = I 6 s := fun s hs => by rw [k8 6 (by decide), a5 s (by omega)]
  have i82 : I' 8 0 2 = 1 := by rw [hI', up_facts.2.2.2]
  have i85 : I' 8 0 5 = I 8 0 5 := by rw [hI', up_facts.2.2.1 5 (by decide), a1 8 (by decide) (by decide) (by decide)]
  have i113 : I' 1 1 3 = nI S := by rw [k8 1 (by decide), a7 3 (by decide) (by decide)]; exact g5
  refine ⟨(I', I' 1 1 3), (J', J 9 0 14), ?_, e2, by rw [i113, g6], c, by omega, ?_⟩
  · unfold f_X8_image f_X1_become
    rw [show (0 : Int32) = nI 0 from nI_0.symm, e1, pz_bd_s, pz_lt_d, ← hI']
  · show RC c n I' J'
    refine ⟨P, S, r, tc, B, h1, ?_, ?_, T.to (by rw [hIk 3 (by decide) (by decide) (by decide) (by decide)]) (hIk 18 (by decide) (by decide) (by decide) (by decide)) (b5 6 (by decide)) (b1 32 (by decide) (by decide) (by decide)), SS.to (hIk 26 (by decide) (by decide) (by decide) (by decide)) (hIk 5 (by decide) (by decide) (by decide) (by decide)) (hIk 27 (by decide) (by decide) (by decide) (by decide)) (b1 47 (by decide) (by decide) (by decide)) (b1 48 (by decide) (by decide) (by decide)) (b1 49 (by decide) (by decide) (by decide)) (b1 50 (by decide) (by decide) (by decide)), X.to i85 (b5 3 (by decide)) (hIk 20 (by decide) (by decide) (by decide) (by decide)) (hIk 7 (by decide) (by decide) (by decide) (by decide)) (hIk 28 (by decide) (by decide) (by decide) (by decide)) (b1 30 (by decide) (by decide) (by decide)) (b1 31 (by decide) (by decide) (by decide)), C.to (by rw [i10]) (hIk 4 (by decide) (by decide) (by decide) (by decide)) (fun j _ _ => by rw [i10]) i2 i6 (by rw [hIk 7 (by decide) (by decide) (by decide) (by decide)]) (by rw [hIk 28 (by decide) (by decide) (by decide) (by decide)]) (hIk 22 (by decide) (by decide) (by decide) (by decide)) (hIk 23 (by decide) (by decide) (by decide) (by decide)) (hIk 24 (by decide) (by decide) (by decide) (by decide)) (hIk 25 (by decide) (by decide) (by decide) (by decide))⟩
    · unfold HI
      rw [i10, b5 9 (by decide), b5 14 (by decide), b5 15 (by decide), b5 16 (by decide), b5 4 (by decide), b1 33 (by decide) (by decide) (by decide), b1 34 (by decide) (by decide) (by decide), b1 35 (by decide) (by decide) (by decide), b1 36 (by decide) (by decide) (by decide), b1 37 (by decide) (by decide) (by decide), b1 38 (by decide) (by decide) (by decide)]
      refine ⟨⟨g1, g2, g3, g4, g5, g6⟩, ⟨q1, q2, q3, q4, q5, q6⟩, fun p hp => by rw [i2 p (by omega)]; exact hP p hp, fun s hs => by rw [i6 s (by omega)]; exact hS s hs⟩
    · unfold KI KR
      refine Or.inr ⟨i82, P, S, r, h1, Nat.le_refl S, ⟨g1, g2, ?_, ?_, ?_, ?_⟩, ⟨?_, ?_, ?_, ?_, ?_, ?_⟩, fun p hp => ?_, fun s hs => ?_⟩
      · rw [k8 1 (by decide), a7 2 (by decide) (by decide)]; exact g3
      · rw [b7]; exact g4
      · exact i113
      · rw [b6]; exact g6
      · rw [k8 1 (by decide), a7 4 (by decide) (by decide), b8]; exact q1
      · rw [k8 1 (by decide), a7 5 (by decide) (by decide), b9]; exact q2
      · rw [k8 1 (by decide), a7 6 (by decide) (by decide)]; exact q3
      · rw [b10]; exact q4
      · rw [b8]; exact q5
      · rw [b8]; exact q6
      · have z0 := a2 p 0 (by omega) (by omega) (by decide)
        have z1 := a2 p 1 (by omega) (by omega) (by decide)
        rw [Nat.mul_one, Nat.mul_zero, Nat.zero_add] at z0 z1
        obtain ⟨w1, w2⟩ := b2 p (by omega) (by omega)
        dsimp only
        rw [k8 2 (by decide), z0, z1, w1, w2]; exact hP p hp
      · have z0 := a4 s 0 (by omega) (by decide)
        have z1 := a4 s 1 (by omega) (by decide)
        have z2 := a4 s 2 (by omega) (by decide)
        have z3 := a4 s 3 (by omega) (by decide)
        rw [Nat.mul_one, Nat.mul_zero, Nat.zero_add] at z0 z1 z2 z3
        obtain ⟨w1, w2, w3⟩ := b4 s (by omega)
        dsimp only
        rw [k8 6 (by decide), z0, z1, z2, z3, w1, w2, w3, b1 35 (by decide) (by decide) (by decide)]; exact hS s hs
theorem sim_back : sm_back Inv := by
  intro k n I J hk h
  have hm := h.mono
  obtain ⟨c, hc, P, S, r, tc, B, h1, H, K, T, SS, X, C⟩ := h
  unfold f_X8_back f_X9_back
  rcases K with ⟨k1, k2⟩ | ⟨k1, P', S', r', k2, k3, k4⟩
  · rw [k1, k2, if_pos rfl, if_pos rfl]
    exact ⟨_, _, rfl, rfl, rfl, hm⟩
  · obtain ⟨⟨g1, g2, g3, g4, g5, g6⟩, ⟨q1, q2, q3, q4, q5, q6⟩, hP, hS⟩ := k4
    have n52 : ¬ J 9 0 52 = -1 := by
      rw [g6]; intro e
      have := congrArg Int32.toInt e
      rw [nI_int (by omega), show (-1 : Int32).toInt = -1 by decide] at this; omega
    rw [k1, if_neg ne10, if_neg n52]
    obtain ⟨I', e1, a1, a2, a3, a4, a5, a6, a7, a8⟩ := bc2 (N := fu) (n := n) (i0 := 0) (i1 := 1) (by decide) (by decide) (by decide) (by decide) fu 0 I (by omega) (by decide)
    obtain ⟨J', e2, b1, b2, b3, b4, b5, b6, b7, b8, b9, b10⟩ := bk13 (N := fu) (by decide) fu 0 J (by omega) (by decide)
    have i3 : I' 1 0 3 = nI S' := by rw [a7 3 (by decide) (by decide)]; exact g5
    refine ⟨(I', I' 1 0 3), (J', J 9 0 52), ?_, e2, by rw [i3, g6], c + 1, by omega, ?_⟩
    · unfold f_X1_become
      rw [show (0 : Int32) = nI 0 from nI_0.symm, e1, pz_bd_s]
    · show RC (c + 1) n I' J'
      refine RC.house (P' := P') (S' := S') (r' := r') k2 ?_ ?_ T SS X C (by omega) a1 (fun k a b => b1 k a (by omega) (by omega) (by omega) (by omega) (by omega)) b5 a8
      · unfold HI
        refine ⟨⟨g1, g2, by rw [a7 2 (by decide) (by decide)]; exact g3, by rw [b7]; exact g4, i3, by rw [b6]; exact g6⟩, ⟨by rw [a7 4 (by decide) (by decide), b8]; exact q1, by rw [a7 5 (by decide) (by decide), b9]; exact q2, by rw [a7 6 (by decide) (by decide)]; exact q3, by rw [b10]; exact q4, by rw [b8]; exact q5, by rw [b8]; exact q6⟩, fun p hp => ?_, fun s hs => ?_⟩
        · have z0 := a2 p 0 (by omega) (by omega) (by decide)
          have z1 := a2 p 1 (by omega) (by omega) (by decide)
          rw [Nat.mul_one, Nat.mul_zero, Nat.zero_add] at z0 z1
          obtain ⟨w1, w2⟩ := b2 p (by omega) (by omega)
          rw [z0, z1, w1, w2]; exact hP p hp
        · have z0 := a4 s 0 (by omega) (by decide)
          have z1 := a4 s 1 (by omega) (by decide)
          have z2 := a4 s 2 (by omega) (by decide)
          have z3 := a4 s 3 (by omega) (by decide)
          rw [Nat.mul_one, Nat.mul_zero, Nat.zero_add] at z0 z1 z2 z3
          obtain ⟨w1, w2, w3⟩ := b4 s (by omega)
          rw [z0, z1, z2, z3, w1, w2, w3, b1 35 (by decide) (by decide) (by decide) (by decide) (by decide) (by decide)]; exact hS s hs
      · unfold KI KR
        have j := fun q x => b5 q x
        rw [a1 8 (by decide) (by decide) (by decide), b5 52 (by decide) (by decide) (by decide) (by decide) (by decide), b5 53 (by decide) (by decide) (by decide) (by decide) (by decide), b5 54 (by decide) (by decide) (by decide) (by decide) (by decide), b5 55 (by decide) (by decide) (by decide) (by decide) (by decide), b5 56 (by decide) (by decide) (by decide) (by decide) (by decide), b1 45 (by decide) (by decide) (by decide) (by decide) (by decide) (by decide), b1 46 (by decide) (by decide) (by decide) (by decide) (by decide) (by decide), b1 35 (by decide) (by decide) (by decide) (by decide) (by decide) (by decide), a6 1 (by decide)]
        refine Or.inr ⟨k1, P', S', r', k2, Nat.le_refl S', ⟨g1, g2, g3, g4, g5, g6⟩, ⟨q1, q2, q3, q4, q5, q6⟩, fun p hp => ?_, fun s hs => ?_⟩
        · dsimp only
          rw [a3 (8 + p) (by omega)]; exact hP p hp
        · dsimp only
          rw [a5 (7 + s) (by omega)]; exact hS s hs
