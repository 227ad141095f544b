/-! ===== calls that want no evening ===== -/
theorem x1_a0 {N n i : Nat} {I : mm_T} {v : Int32} : f_X1_allows N n I i 0 v = some (b01 (inb (0 : Int32) (99 : Int32) v)) := by
  unfold f_X1_allows
  simp only [pz_lt_d, if_true]
  have h1 := show (0 : Int32).toInt = 0 by decide
  have h2 := show (99 : Int32).toInt = 99 by decide
  have h3 := show (99 : Int32).toInt = 99 by decide
  by_cases c1 : v < 0
  · rw [if_pos c1, b01_f]; rw [i32_lt] at c1; rw [inb_iff]; omega
  · rw [if_neg c1]; rw [i32_lt] at c1
    by_cases c2 : (99 : Int32) < v
    · rw [if_pos c2, b01_f]; rw [i32_lt] at c2; rw [inb_iff]; omega
    · rw [if_neg c2, b01_t]; rw [i32_lt] at c2; rw [inb_iff]; omega
theorem x1_a1 {N n i : Nat} {I : mm_T} {v : Int32} : f_X1_allows N n I i 1 v = some (b01 (inb (0 : Int32) (7 : Int32) v)) := by
  unfold f_X1_allows
  simp only [pz_lt_d, if_neg (show ¬ (1 : Int32) = 0 by decide), if_true]
  have h1 := show (0 : Int32).toInt = 0 by decide
  have h2 := show (7 : Int32).toInt = 7 by decide
  have h3 := show (8 : Int32).toInt = 8 by decide
  by_cases c1 : v < 0
  · rw [if_pos c1, b01_f]; rw [i32_lt] at c1; rw [inb_iff]; omega
  · rw [if_neg c1]; rw [i32_lt] at c1
    by_cases c2 : (8 : Int32) ≤ v
    · rw [if_pos c2, b01_f]; rw [i32_le] at c2; rw [inb_iff]; omega
    · rw [if_neg c2, b01_t]; rw [i32_le] at c2; rw [inb_iff]; omega
theorem x1_a2 {N n i : Nat} {I : mm_T} {v : Int32} : f_X1_allows N n I i 2 v = some (b01 (inb (0 : Int32) (9 : Int32) v)) := by
  unfold f_X1_allows
  simp only [pz_lt_d, if_neg (show ¬ (2 : Int32) = 0 by decide), if_neg (show ¬ (2 : Int32) = 1 by decide), if_true]
  have h1 := show (0 : Int32).toInt = 0 by decide
  have h2 := show (9 : Int32).toInt = 9 by decide
  have h3 := show (9 : Int32).toInt = 9 by decide
  by_cases c1 : v < 0
  · rw [if_pos c1, b01_f]; rw [i32_lt] at c1; rw [inb_iff]; omega
  · rw [if_neg c1]; rw [i32_lt] at c1
    by_cases c2 : (9 : Int32) < v
    · rw [if_pos c2, b01_f]; rw [i32_lt] at c2; rw [inb_iff]; omega
    · rw [if_neg c2, b01_t]; rw [i32_lt] at c2; rw [inb_iff]; omega
theorem x1_a3 {N n i : Nat} {I : mm_T} {v : Int32} : f_X1_allows N n I i 3 v = some (b01 (inb (1 : Int32) (9 : Int32) v)) := by
  unfold f_X1_allows
  simp only [pz_lt_d, if_neg (show ¬ (3 : Int32) = 0 by decide), if_neg (show ¬ (3 : Int32) = 1 by decide), if_neg (show ¬ (3 : Int32) = 2 by decide), if_true]
  have h1 := show (1 : Int32).toInt = 1 by decide
  have h2 := show (9 : Int32).toInt = 9 by decide
  have h3 := show (9 : Int32).toInt = 9 by decide
  by_cases c1 : v < (1 : Int32)
  · rw [if_pos c1, b01_f]; rw [i32_lt] at c1; rw [inb_iff]; omega
  · rw [if_neg c1]; rw [i32_lt] at c1
    by_cases c2 : (9 : Int32) < v
    · rw [if_pos c2, b01_f]; rw [i32_lt] at c2; rw [inb_iff]; omega
    · rw [if_neg c2, b01_t]; rw [i32_lt] at c2; rw [inb_iff]; omega
theorem x1_a5 {N n i : Nat} {I : mm_T} {v : Int32} : f_X1_allows N n I i 5 v = some (b01 (inb (-99 : Int32) (99 : Int32) v)) := by
  unfold f_X1_allows
  simp only [pz_lt_d, if_neg (show ¬ (5 : Int32) = 0 by decide), if_neg (show ¬ (5 : Int32) = 1 by decide), if_neg (show ¬ (5 : Int32) = 2 by decide), if_neg (show ¬ (5 : Int32) = 3 by decide), if_neg (show ¬ (5 : Int32) = 4 by decide), if_true]
  have h1 := show (-99 : Int32).toInt = -99 by decide
  have h2 := show (99 : Int32).toInt = 99 by decide
  have h3 := show (99 : Int32).toInt = 99 by decide
  by_cases c1 : v < (-99 : Int32)
  · rw [if_pos c1, b01_f]; rw [i32_lt] at c1; rw [inb_iff]; omega
  · rw [if_neg c1]; rw [i32_lt] at c1
    by_cases c2 : (99 : Int32) < v
    · rw [if_pos c2, b01_f]; rw [i32_lt] at c2; rw [inb_iff]; omega
    · rw [if_neg c2, b01_t]; rw [i32_lt] at c2; rw [inb_iff]; omega
theorem x1_a6 {N n i : Nat} {I : mm_T} {v : Int32} : f_X1_allows N n I i 6 v = some (b01 (inb (1 : Int32) (99 : Int32) v)) := by
  unfold f_X1_allows
  simp only [pz_lt_d, if_neg (show ¬ (6 : Int32) = 0 by decide), if_neg (show ¬ (6 : Int32) = 1 by decide), if_neg (show ¬ (6 : Int32) = 2 by decide), if_neg (show ¬ (6 : Int32) = 3 by decide), if_neg (show ¬ (6 : Int32) = 4 by decide), if_neg (show ¬ (6 : Int32) = 5 by decide), if_true]
  have h1 := show (1 : Int32).toInt = 1 by decide
  have h2 := show (99 : Int32).toInt = 99 by decide
  have h3 := show (99 : Int32).toInt = 99 by decide
  by_cases c1 : v < (1 : Int32)
  · rw [if_pos c1, b01_f]; rw [i32_lt] at c1; rw [inb_iff]; omega
  · rw [if_neg c1]; rw [i32_lt] at c1
    by_cases c2 : (99 : Int32) < v
    · rw [if_pos c2, b01_f]; rw [i32_lt] at c2; rw [inb_iff]; omega
    · rw [if_neg c2, b01_t]; rw [i32_lt] at c2; rw [inb_iff]; omega
theorem x1_a4 {N n i P : Nat} {I : mm_T} {v : Int32} (h : I 1 i 2 = nI P) (hP : P < 2147483648) : f_X1_allows N n I i 4 v = some (b01 (inr P v)) := by
  unfold f_X1_allows
  simp only [pz_lt_d, if_neg (show ¬ (4 : Int32) = 0 by decide), if_neg (show ¬ (4 : Int32) = 1 by decide), if_neg (show ¬ (4 : Int32) = 2 by decide), if_neg (show ¬ (4 : Int32) = 3 by decide), if_true]
  rw [x1_hasPerson h hP, pz_bd_s, pz_gd_t b01_z]
theorem x1_v0 {N n i P : Nat} {I : mm_T} {v : Int32} (h : I 1 i 2 = nI P) (hP : P < 2147483648) : f_X1_hasValue N n I i 0 v = some (b01 (inr P v)) := by
  unfold f_X1_hasValue
  simp only [pz_lt_d, if_true]
  rw [x1_hasPerson h hP, pz_bd_s, pz_gd_t b01_z]
theorem x1_v1 {N n i P : Nat} {I : mm_T} {v : Int32} (h : I 1 i 2 = nI P) (hP : P < 2147483648) : f_X1_hasValue N n I i 1 v = some (b01 (inr P v)) := by
  unfold f_X1_hasValue
  simp only [pz_lt_d, if_neg (show ¬ (1 : Int32) = 0 by decide), if_true]
  rw [x1_hasPerson h hP, pz_bd_s, pz_gd_t b01_z]
theorem x1_v2 {N n i P : Nat} {I : mm_T} {v : Int32} (h : I 1 i 3 = nI P) (hP : P < 2147483648) : f_X1_hasValue N n I i 2 v = some (b01 (inr P v)) := by
  unfold f_X1_hasValue
  simp only [pz_lt_d, if_neg (show ¬ (2 : Int32) = 0 by decide), if_neg (show ¬ (2 : Int32) = 1 by decide), if_true]
  rw [x1_hasSlip h hP, pz_bd_s, pz_gd_t b01_z]
theorem x1_v3 {N n i P : Nat} {I : mm_T} {v : Int32} (h : I 1 i 3 = nI P) (hP : P < 2147483648) : f_X1_hasValue N n I i 3 v = some (b01 (inr P v)) := by
  unfold f_X1_hasValue
  simp only [pz_lt_d, if_neg (show ¬ (3 : Int32) = 0 by decide), if_neg (show ¬ (3 : Int32) = 1 by decide), if_neg (show ¬ (3 : Int32) = 2 by decide), if_true]
  rw [x1_hasSlip h hP, pz_bd_s, pz_gd_t b01_z]
theorem x1_v4 {N n i P : Nat} {I : mm_T} {v : Int32} (h : I 1 i 3 = nI P) (hP : P < 2147483648) : f_X1_hasValue N n I i 4 v = some (b01 (inr P v)) := by
  unfold f_X1_hasValue
  simp only [pz_lt_d, if_neg (show ¬ (4 : Int32) = 0 by decide), if_neg (show ¬ (4 : Int32) = 1 by decide), if_neg (show ¬ (4 : Int32) = 2 by decide), if_neg (show ¬ (4 : Int32) = 3 by decide), if_true]
  rw [x1_hasSlip h hP, pz_bd_s, pz_gd_t b01_z]
theorem x1_v5 {N n i : Nat} {I : mm_T} {v : Int32} : f_X1_hasValue N n I i 5 v = some 1 := by
  unfold f_X1_hasValue
  simp only [pz_lt_d, if_neg (show ¬ (5 : Int32) = 0 by decide), if_neg (show ¬ (5 : Int32) = 1 by decide), if_neg (show ¬ (5 : Int32) = 2 by decide), if_neg (show ¬ (5 : Int32) = 3 by decide), if_neg (show ¬ (5 : Int32) = 4 by decide), if_true]
theorem x1_v6 {N n i : Nat} {I : mm_T} {v : Int32} : f_X1_hasValue N n I i 6 v = some 1 := by
  unfold f_X1_hasValue
  simp only [pz_lt_d, if_neg (show ¬ (6 : Int32) = 0 by decide), if_neg (show ¬ (6 : Int32) = 1 by decide), if_neg (show ¬ (6 : Int32) = 2 by decide), if_neg (show ¬ (6 : Int32) = 3 by decide), if_neg (show ¬ (6 : Int32) = 4 by decide), if_neg (show ¬ (6 : Int32) = 5 by decide), if_true]
theorem x1_vz {N n i : Nat} {I : mm_T} {a v : Int32} (h : ¬ (0 ≤ a.toInt ∧ a.toInt ≤ 6)) : f_X1_hasValue N n I i a v = some 0 := by
  unfold f_X1_hasValue
  simp only [pz_lt_d]
  have ne : ∀ k : Int32, 0 ≤ k.toInt → k.toInt ≤ 6 → ¬ a = k := fun k h1 h2 e => h (by rw [e]; exact ⟨h1, h2⟩)
  rw [if_neg (ne 0 (by decide) (by decide)), if_neg (ne 1 (by decide) (by decide)), if_neg (ne 2 (by decide) (by decide)), if_neg (ne 3 (by decide) (by decide)), if_neg (ne 4 (by decide) (by decide)), if_neg (ne 5 (by decide) (by decide)), if_neg (ne 6 (by decide) (by decide))]
theorem i32_07 {a : Int32} (h : 0 ≤ a.toInt ∧ a.toInt ≤ 6) : a = 0 ∨ a = 1 ∨ a = 2 ∨ a = 3 ∨ a = 4 ∨ a = 5 ∨ a = 6 := by
  have h0 := show (0 : Int32).toInt = 0 by decide
  have h1 := show (1 : Int32).toInt = 1 by decide
  have h2 := show (2 : Int32).toInt = 2 by decide
  have h3 := show (3 : Int32).toInt = 3 by decide
  have h4 := show (4 : Int32).toInt = 4 by decide
  have h5 := show (5 : Int32).toInt = 5 by decide
  have h6 := show (6 : Int32).toInt = 6 by decide
  simp only [i32_eq]
  omega
theorem nI_lt8 {P M : Nat} (hP : P < 2147483648) (hM : M < 2147483648) : nI P < nI M ↔ P < M := by rw [i32_lt, nI_int hP, nI_int hM]; omega
theorem nI_eqM {P M : Nat} (hP : P < 2147483648) (hM : M < 2147483648) : nI P = nI M ↔ P = M := by rw [i32_eq, nI_int hP, nI_int hM]; omega
/-! told, count, taken: nothing changes -/
theorem sim_count : sm_count Inv := by
  intro k n I J p1 hk h
  have hm := h.mono
  obtain ⟨c, hc, P, S, r, tc, B, h1, H, K, T, SS, X, C⟩ := h
  obtain ⟨⟨g1, g2, g3, g4, g5, g6⟩, ⟨q1, q2, q3, q4, q5, q6⟩, hP, hS⟩ := H
  unfold f_X8_count f_X9_count
  by_cases hp : 0 ≤ p1.toInt ∧ p1.toInt ≤ 6
  · rw [show (0 : Int64) = (0 : Int32).toInt64 by decide, show (6 : Int64) = (6 : Int32).toInt64 by decide, x9_in, pz_bd_s, b01_t (by rw [inb_iff]; exact hp), if_neg (by decide)]
    rcases i32_07 hp with rfl | rfl | rfl | rfl | rfl | rfl | rfl
    · exact ⟨_, _, rfl, rfl, by rw [g3, g4], hm⟩
    · exact ⟨_, _, rfl, rfl, by rw [g5, g6], hm⟩
    · exact ⟨_, _, rfl, rfl, by rw [q1], hm⟩
    · exact ⟨_, _, rfl, rfl, by rw [q2], hm⟩
    · exact ⟨_, _, rfl, rfl, by rw [X.2.2.2.1, X.2.2.2.2.1], hm⟩
    · exact ⟨_, _, rfl, rfl, by rw [T.2.1, T.2.2.1], hm⟩
    · exact ⟨_, _, rfl, rfl, by rw [q3, q4], hm⟩
  · rw [show (0 : Int64) = (0 : Int32).toInt64 by decide, show (6 : Int64) = (6 : Int32).toInt64 by decide, x9_in, pz_bd_s, b01_f (by rw [inb_iff]; exact hp), if_pos rfl]
    simp only [pz_lt_d]
    have ne : ∀ k : Int32, 0 ≤ k.toInt → k.toInt ≤ 6 → ¬ p1 = k := fun k h1 h2 e => hp (by rw [e]; exact ⟨h1, h2⟩)
    rw [if_neg (ne 0 (by decide) (by decide)), if_neg (ne 1 (by decide) (by decide)), if_neg (ne 2 (by decide) (by decide)), if_neg (ne 3 (by decide) (by decide)), if_neg (ne 4 (by decide) (by decide)), if_neg (ne 5 (by decide) (by decide)), if_neg (ne 6 (by decide) (by decide))]
    exact ⟨_, _, rfl, rfl, rfl, hm⟩
theorem i64_0 : (0 : Int64) = (0 : Int32).toInt64 := by decide
theorem i64_5 : (5 : Int64) = (5 : Int32).toInt64 := by decide
theorem i64_7 : (7 : Int64) = (7 : Int32).toInt64 := by decide
theorem i64_10 : (10 : Int64) = (10 : Int32).toInt64 := by decide
theorem i64_99 : (99 : Int64) = (99 : Int32).toInt64 := by decide
theorem i64_255 : (255 : Int64) = (255 : Int32).toInt64 := by decide
theorem i64_n99 : (-99 : Int64) = (-99 : Int32).toInt64 := by decide
theorem i64_1 : (1 : Int64) = (1 : Int32).toInt64 := by decide
theorem i64_2 : (2 : Int64) = (2 : Int32).toInt64 := by decide
theorem i64_4 : (4 : Int64) = (4 : Int32).toInt64 := by decide
theorem i64_6 : (6 : Int64) = (6 : Int32).toInt64 := by decide
theorem i64_9 : (9 : Int64) = (9 : Int32).toInt64 := by decide
theorem nI_sub {a : Nat} : nI (a + 1) - 1 = nI a := nI_pred a
/-! come -/
set_option maxHeartbeats 4000000 in
theorem rc_come {c n : Nat} {I J : mm_T} {p1 p2 : Int32} (hc : c < 100000) (h : RC c n I J) : ∃ (z v : mm_T × Int32) (c' : Nat), f_X8_come fu n I p1 p2 = some z ∧ f_X9_come fu J p1 p2 = some v ∧ z.2 = v.2 ∧ RC c' n z.1 v.1 ∧ c' ≤ c + 1 := by
  have hR := h
  obtain ⟨P, S, r, tc, B, h1, H, K, T, SS, X, C⟩ := h
  have HH := H
  obtain ⟨⟨g1, g2, g3, g4, g5, g6⟩, ⟨q1, q2, q3, q4, q5, q6⟩, hP, hS⟩ := H
  unfold f_X8_come f_X9_come
  rw [x1_a0, pz_bd_s, i64_0, i64_99, i64_7, x9_in, pz_bd_s]
  by_cases c1 : inb 0 99 p1 = true
  · rw [b01_t c1, if_neg (by decide), if_neg (by decide), x1_a1, pz_bd_s, x9_in, pz_bd_s]
    by_cases c2 : inb 0 7 p2 = true
    · rw [b01_t c2, if_neg (by decide), if_neg (by decide)]
      unfold f_X1_addPerson
      rw [g3, g4]
      by_cases c3 : P = 8
      · subst c3
        rw [if_neg (by decide), if_pos (by decide), pz_bd_s]
        exact ⟨_, _, c, rfl, rfl, rfl, hR, by omega⟩
      · have hP8 : P < 8 := by omega
        rw [if_pos (show nI P < (8 : Int32) from (nI_lt8 (M := 8) (by omega) (by decide)).mpr hP8), if_neg (show ¬ nI P = (8 : Int32) from fun e => c3 ((nI_eqM (M := 8) (by omega) (by decide)).mp e))]
        have ei : ix_in (nI P) 8 = true := nI_ix hP8 (by decide)
        have cl : (nI P).toNatClampNeg = P := nI_cl (by omega)
        simp only [pz_lt_d, mm_get, g3, g4, cl, Nat.mul_zero, Nat.zero_add]
        simp only [show ¬ (1 = 2) by decide, show ¬ (7 = 2) by decide, show ¬ (2 = 7) by decide, and_false, show ¬ (9 = 33) by decide, show ¬ (9 = 34) by decide, false_and, if_false, g3, g4, cl, and_self, if_true, pz_gd_t ei, pz_bd_s, nI_1]
        refine ⟨_, _, c + 1, rfl, rfl, ?_, ?_, by omega⟩
        · simp [mm_get]
        · obtain ⟨v, hv, rfl⟩ : ∃ v, v < 8 ∧ p2 = nI v := by
            obtain ⟨j, hj, e⟩ := inr_nI (P := 8) (p := p2) (by decide) (by rw [inr_iff]; have := inb_iff.mp c2; rw [show (0 : Int32).toInt = 0 by decide, show (7 : Int32).toInt = 7 by decide] at this; omega)
            exact ⟨j, hj, e⟩
          obtain ⟨I', hI'⟩ : ∃ z, z = mm_up (mm_up (mm_up (mm_up I 2 P 0 p1) 2 P 1 (nI v)) 1 0 2 (nI (P + 1))) 1 0 7 (I 1 0 7 + 1) := ⟨_, rfl⟩
          obtain ⟨J', hJ'⟩ : ∃ z, z = mm_up (mm_up (mm_up J 33 0 P p1) 34 0 P (nI v)) 9 0 9 (nI (P + 1)) := ⟨_, rfl⟩
          rw [← hI', ← hJ']
          show RC (c + 1) n I' J'
          refine RC.house (P' := P + 1) (S' := S) (r' := r) h1 ?_ ?_ T SS X C hc (fun k a1 a2 a6 => by rw [hI', mm_up_ne a1, mm_up_ne a1, mm_up_ne a2, mm_up_ne a2]) (fun k a9 a => by rw [hJ', mm_up_ne a9, mm_up_ne (by omega), mm_up_ne (by omega)]) (fun j _ a9 _ _ _ => by simp [hJ', mm_get, a9]) (by simp [hI', mm_get])
          · refine ⟨⟨by omega, g2, by simp [hI', mm_get], by simp [hJ', mm_get], by simp [hI', mm_get, g5], by simp [hJ', mm_get, g6]⟩, ⟨by simp [hI', hJ', mm_get, q1], by simp [hI', hJ', mm_get, q2], by simp [hI', mm_get, q3], by simp [hJ', mm_get, q4], by simp [hJ', mm_get]; exact q5, by simp [hJ', mm_get]; exact q6⟩, fun p hp => ?_, fun s hs => ?_⟩
            · by_cases hpP : p = P
              · subst hpP
                exact ⟨by simp [hI', hJ', mm_get], by simp [hI', hJ', mm_get], v, hv, by simp [hJ', mm_get]⟩
              · have := hP p (by omega)
                exact ⟨by simp [hI', hJ', mm_get, hpP]; exact this.1, by simp [hI', hJ', mm_get, hpP]; exact this.2.1, by simp [hJ', mm_get, hpP]; exact this.2.2⟩
            · obtain ⟨a1, a2, a3, a4, ⟨w, hw, a5⟩, a6⟩ := hS s hs
              exact ⟨by simp [hI', hJ', mm_get]; exact a1, by simp [hI', hJ', mm_get]; exact a2, by simp [hI', hJ', mm_get]; exact a3, by simp [hI', hJ', mm_get]; exact a4, ⟨w, by omega, by simp [hJ', mm_get]; exact a5⟩, by simp [hJ', mm_get]; exact a6⟩
          · have e8 : ∀ p, 8 + p ≠ P := fun p => by omega
            exact K.to (Nat.le_refl tc) (Nat.le_refl S) (by simp [hI', mm_get]) (fun j _ _ => by simp [hI', mm_get]) (fun p j => by simp [hI', mm_get, e8 p]) (fun s j => by simp [hI', mm_get]) (by simp [hJ', mm_get]) (by simp [hJ', mm_get]) (by simp [hJ', mm_get]) (by simp [hJ', mm_get]) (by simp [hJ', mm_get]) (by simp [hJ', mm_up_ne]) (by simp [hJ', mm_up_ne]) (fun s hs => by simp [hJ', mm_get])
    · rw [b01_f c2, if_pos rfl, if_pos rfl]
      exact ⟨_, _, c, rfl, rfl, rfl, hR, by omega⟩
  · rw [b01_f c1, if_pos rfl, if_pos rfl]
    exact ⟨_, _, c, rfl, rfl, rfl, hR, by omega⟩
theorem sim_come : sm_come Inv := by
  intro k n I J p1 p2 hk h
  obtain ⟨c, hc, h⟩ := h
  obtain ⟨z, v, c', e1, e2, e3, h', hc'⟩ := rc_come (p1 := p1) (p2 := p2) (by omega) h
  exact ⟨z, v, e1, e2, e3, c', by omega, h'⟩
theorem ne10 : ¬ (1 : Int32) = 0 := by decide
theorem z00 : (0 : Int32) = 0 := rfl
theorem inb_t {a b v : Int32} (h : inb a b v = true) : ¬ v < a ∧ ¬ b < v := by rw [inb_iff] at h; rw [i32_lt, i32_lt]; omega
theorem inb_f {a b v : Int32} (h : ¬ inb a b v = true) : v < a ∨ (¬ v < a ∧ b < v) := by rw [inb_iff] at h; rw [i32_lt, i32_lt]; omega
/-! slip -/
set_option maxHeartbeats 4000000 in
theorem rc_slip {c n : Nat} {I J : mm_T} {p1 p2 p3 : Int32} (hc : c < 100000) (h : RC c n I J) : ∃ (z v : mm_T × Int32) (c' : Nat), f_X1_addSlip fu n I 0 p1 p2 p3 = some z ∧ f_X9_slip fu J p1 p2 p3 = some v ∧ z.2 = v.2 ∧ RC c' n z.1 v.1 ∧ c' ≤ c + 1 ∧ (z.1 5 = I 5 ∧ z.1 27 = I 27 ∧ v.1 49 = J 49 ∧ v.1 50 = J 50) ∧ (v.2 = -2 ∨ v.2 = -4 ∨ 0 ≤ v.2) := by
  have hR := h
  obtain ⟨P, S, r, tc, B, h1, H, K, T, SS, X, C⟩ := h
  obtain ⟨⟨g1, g2, g3, g4, g5, g6⟩, ⟨q1, q2, q3, q4, q5, q6⟩, hP, hS⟩ := H
  unfold f_X1_addSlip f_X9_slip
  rw [i64_0, i64_5, i64_10, i64_99, x9_in, pz_bd_s]
  have bad : ∀ (a : Int32), (a = -2 ∨ a = -4 ∨ 0 ≤ a) → ∃ (z v : mm_T × Int32) (c' : Nat), some (I, a) = some z ∧ some (J, a) = some v ∧ z.2 = v.2 ∧ RC c' n z.1 v.1 ∧ c' ≤ c + 1 ∧ (z.1 5 = I 5 ∧ z.1 27 = I 27 ∧ v.1 49 = J 49 ∧ v.1 50 = J 50) ∧ (v.2 = -2 ∨ v.2 = -4 ∨ 0 ≤ v.2) := fun a ha => ⟨(I, a), (J, a), c, rfl, rfl, rfl, hR, by omega, ⟨rfl, rfl, rfl, rfl⟩, ha⟩
  by_cases c1 : inb 0 5 p1 = true
  · obtain ⟨a1, a2⟩ := inb_t c1
    rw [b01_t c1, if_neg ne10, if_neg a1, if_neg a2, x9_in, pz_bd_s]
    by_cases c2 : inb 10 99 p2 = true
    · obtain ⟨a3, a4⟩ := inb_t c2
      rw [b01_t c2, if_neg ne10, if_neg a3, if_neg a4, x1_hasPerson g3 (by omega), pz_bd_s, x9_isOne g4 (by omega), pz_bd_s]
      by_cases c3 : inr P p3 = true
      · rw [b01_t c3, if_neg ne10, if_neg ne10, g5, g6]
        by_cases c4 : S = 7
        · subst c4
          rw [if_neg (by decide), if_pos (by decide)]
          exact bad _ (by decide)
        · have hS7 : S < 7 := by omega
          rw [if_pos (show nI S < (7 : Int32) from (nI_lt8 (M := 7) (by omega) (by decide)).mpr hS7), if_neg (show ¬ nI S = (7 : Int32) from fun e => c4 ((nI_eqM (M := 7) (by omega) (by decide)).mp e))]
          have ei : ix_in (nI S) 7 = true := nI_ix hS7 (by decide)
          have cl : (nI S).toNatClampNeg = S := nI_cl (by omega)
          simp only [pz_lt_d, mm_get, g5, g6, cl, Nat.mul_zero, Nat.zero_add]
          simp only [show ¬ (1 = 6) by decide, show ¬ (7 = 3) by decide, show ¬ (3 = 7) by decide, and_false, show ¬ (9 = 35) by decide, show ¬ (9 = 36) by decide, show ¬ (9 = 37) by decide, show ¬ (9 = 38) by decide, false_and, if_false, g5, g6, cl, and_self, if_true, pz_gd_t ei, pz_bd_s, nI_1]
          obtain ⟨v, hv, rfl⟩ := inr_nI (by omega) c3
          obtain ⟨kk, hkk, rfl⟩ : ∃ v, v < 6 ∧ p1 = nI v := by
            obtain ⟨j, hj, e⟩ := inr_nI (P := 6) (p := p1) (by decide) (by rw [inr_iff]; have := inb_iff.mp c1; rw [show (0 : Int32).toInt = 0 by decide, show (5 : Int32).toInt = 5 by decide] at this; omega)
            exact ⟨j, hj, e⟩
          obtain ⟨I', hI'⟩ : ∃ z, z = mm_up (mm_up (mm_up (mm_up (mm_up (mm_up I 6 S 0 (nI kk)) 6 S 1 (p2 - p2 / 10 * 10)) 6 S 2 (p2 / 10)) 6 S 3 (nI v)) 1 0 3 (nI (S + 1))) 1 0 7 (I 1 0 7 + 1) := ⟨_, rfl⟩
          obtain ⟨J', hJ'⟩ : ∃ z, z = mm_up (mm_up (mm_up (mm_up (mm_up J 35 0 S (nI kk)) 37 0 S (p2 / 10)) 36 0 S (p2 - p2 / 10 * 10)) 38 0 S (nI v)) 9 0 14 (nI (S + 1)) := ⟨_, rfl⟩
          rw [← hI', ← hJ']
          have i3 : I' 1 0 3 = nI (S + 1) := by rw [hI']; simp only [mm_get]; simp
          have j14 : J' 9 0 14 = nI (S + 1) := by rw [hJ']; simp only [mm_get]; simp
          rw [nI_sub]
          have hIk : ∀ k, k ≠ 1 → k ≠ 6 → I' k = I k := fun k a1 a6 => by rw [hI', mm_up_ne a1, mm_up_ne a1, mm_up_ne a6, mm_up_ne a6, mm_up_ne a6, mm_up_ne a6]
          have hJk : ∀ k, k ≠ 9 → (k < 35 ∨ 38 < k) → J' k = J k := fun k a9 a => by rw [hJ', mm_up_ne a9, mm_up_ne (by omega), mm_up_ne (by omega), mm_up_ne (by omega), mm_up_ne (by omega)]
          have i1 : ∀ j, j ≠ 3 → j ≠ 7 → I' 1 0 j = I 1 0 j := fun j b1 b2 => by rw [hI']; simp only [mm_get]; simp [b1, b2]
          have i11 : ∀ j, I' 1 1 j = I 1 1 j := fun j => by rw [hI']; simp only [mm_get]; simp
          have j9 : ∀ j, j ≠ 14 → J' 9 0 j = J 9 0 j := fun j b1 => by rw [hJ']; simp only [mm_get]; simp [b1]
          have i6 : ∀ s j, s ≠ S → I' 6 s j = I 6 s j := fun s j b => by rw [hI']; simp only [mm_get]; simp [b]
          have i60 : I' 6 S 0 = nI kk ∧ I' 6 S 1 = (p2 - p2 / 10 * 10) ∧ I' 6 S 2 = p2 / 10 ∧ I' 6 S 3 = nI v := by rw [hI']; simp only [mm_get]; simp
          have jS : ∀ s, s ≠ S → J' 35 0 s = J 35 0 s ∧ J' 36 0 s = J 36 0 s ∧ J' 37 0 s = J 37 0 s ∧ J' 38 0 s = J 38 0 s := fun s b => by rw [hJ']; simp only [mm_get]; simp [b]
          have jSS : J' 35 0 S = nI kk ∧ J' 36 0 S = (p2 - p2 / 10 * 10) ∧ J' 37 0 S = p2 / 10 ∧ J' 38 0 S = nI v := by rw [hJ']; simp only [mm_get]; simp
          refine ⟨(I', nI S), (J', nI S), c + 1, rfl, rfl, rfl, ?_, by omega, ⟨hIk 5 (by decide) (by decide), hIk 27 (by decide) (by decide), hJk 49 (by decide) (by decide), hJk 50 (by decide) (by decide)⟩, Or.inr (Or.inr (nI_pos' (by omega)))⟩
          show RC (c + 1) n I' J'
          refine RC.house (P' := P) (S' := S + 1) (r' := r) h1 ?_ ?_ T SS X C hc (fun k a1 a2 a6 => hIk k a1 a6) (fun k a9 a => hJk k a9 (by omega)) (fun j _ _ a14 _ _ => j9 j a14) (by rw [hI']; simp only [mm_get]; simp)
          · refine ⟨⟨g1, by omega, by rw [i1 2 (by decide) (by decide)]; exact g3, by rw [j9 9 (by decide)]; exact g4, i3, j14⟩, ⟨by rw [i1 4 (by decide) (by decide), j9 15 (by decide)]; exact q1, by rw [i1 5 (by decide) (by decide), j9 16 (by decide)]; exact q2, by rw [i1 6 (by decide) (by decide)]; exact q3, by rw [j9 4 (by decide)]; exact q4, by rw [j9 15 (by decide)]; exact q5, by rw [j9 15 (by decide)]; exact q6⟩, fun p hp => ?_, fun s hs => ?_⟩
            · rw [hIk 2 (by decide) (by decide), hJk 33 (by decide) (by decide), hJk 34 (by decide) (by decide)]; exact hP p hp
            · by_cases hsS : s = S
              · rw [hsS, i60.1, i60.2.1, i60.2.2.1, i60.2.2.2, jSS.1, jSS.2.1, jSS.2.2.1, jSS.2.2.2]
                exact ⟨rfl, rfl, rfl, rfl, ⟨v, hv, rfl⟩, ⟨kk, hkk, rfl, len_ex c2⟩⟩
              · obtain ⟨a1, a2, a3, a4, a5, a6⟩ := hS s (by omega)
                obtain ⟨b1, b2, b3, b4⟩ := jS s hsS
                rw [i6 s 0 hsS, i6 s 1 hsS, i6 s 2 hsS, i6 s 3 hsS, b1, b2, b3, b4]
                exact ⟨a1, a2, a3, a4, a5, a6⟩
          · exact K.to (Nat.le_refl tc) (Nat.le_succ S) (by rw [hIk 8 (by decide) (by decide)]) (fun j _ _ => i11 j) (fun p j => by rw [hIk 2 (by decide) (by decide)]) (fun s j => i6 (7 + s) j (by omega)) (j9 52 (by decide)) (j9 53 (by decide)) (j9 54 (by decide)) (j9 55 (by decide)) (j9 56 (by decide)) (by rw [hJk 45 (by decide) (by decide)]) (by rw [hJk 46 (by decide) (by decide)]) (fun s hs => (jS s (by omega)).1)
      · rw [b01_f c3, if_pos z00, if_pos z00]
        exact bad _ (by decide)
    · rw [b01_f c2, if_pos z00]
      rcases inb_f c2 with a3 | ⟨a3, a4⟩
      · rw [if_pos a3]; exact bad _ (by decide)
      · rw [if_neg a3, if_pos a4]; exact bad _ (by decide)
  · rw [b01_f c1, if_pos z00]
    rcases inb_f c1 with a3 | ⟨a3, a4⟩
    · rw [if_pos a3]; exact bad _ (by decide)
    · rw [if_neg a3, if_pos a4]; exact bad _ (by decide)
theorem sim_slip : sm_slip Inv := by
  intro k n I J p1 p2 p3 hk h
  obtain ⟨c, hc, h⟩ := h
  obtain ⟨z, v, c', e1, e2, e3, h', hc', -, -⟩ := rc_slip (p1 := p1) (p2 := p2) (p3 := p3) (by omega) h
  refine ⟨z, v, ?_, e2, e3, c', by omega, h'⟩
  unfold f_X8_slip
  rw [e1]; rfl
