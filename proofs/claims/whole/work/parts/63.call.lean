/-! ===== a slip is called ===== -/
theorem moves_sim {n s : Nat} {I J : mm_T} (hs : s < 7) (h0 : I 6 s 0 = J 35 0 s) (h1 : I 6 s 1 = J 36 0 s) (m : Int32) : ∃ x, f_X6_moves fu n I s m = some x ∧ f_X9_moves fu J (nI s) m = some x := by
  unfold f_X6_moves f_X9_moves
  simp only [pz_lt_d, pz_gd_t (nI_ix hs (show 7 < 2147483648 by decide)), nI_cl (show s < 2147483648 by omega), h0, h1]
  generalize J 35 0 s = k
  by_cases k1 : k = 1
  · subst k1
    rw [if_pos rfl, if_pos rfl, if_neg (by decide)]; exact ⟨_, rfl, rfl⟩
  · rw [if_neg k1, if_neg k1]
    by_cases k2 : k = 2
    · subst k2
      rw [if_pos rfl, if_neg (by decide), if_neg (by decide), if_pos rfl]; exact ⟨_, rfl, rfl⟩
    · rw [if_neg k2]
      by_cases k3 : k = 3
      · subst k3
        rw [if_pos rfl, if_pos rfl, if_pos rfl]
        by_cases h : 0 ≤ m
        · rw [if_pos h]; exact ⟨_, rfl, rfl⟩
        · rw [if_neg h]; exact ⟨_, rfl, rfl⟩
      · rw [if_neg k3, if_neg k3]
        by_cases k4 : k = 4
        · subst k4
          rw [if_pos rfl, if_pos rfl]
          by_cases h : 0 ≤ m
          · rw [if_pos h]; exact ⟨_, rfl, rfl⟩
          · rw [if_neg h]; exact ⟨_, rfl, rfl⟩
        · rw [if_neg k4, if_neg k4, if_neg k2]
          by_cases k5 : k = 5
          · subst k5
            rw [if_pos rfl]; exact ⟨_, rfl, rfl⟩
          · rw [if_neg k5]; exact ⟨_, rfl, rfl⟩
theorem mx_eq {x : Int32} : (if 0 ≤ x then some x else some (0 : Int32)) = some (if (0 : Int32) < x then x else (0 : Int32)) := by
  by_cases h : 0 < x
  · rw [if_pos h, if_pos (by rw [i32_lt] at h; rw [i32_le]; omega)]
  · rw [if_neg h]
    by_cases h2 : 0 ≤ x
    · rw [if_pos h2, show x = 0 from i32_eq.mpr (by rw [i32_lt] at h; rw [i32_le] at h2; omega)]
    · rw [if_neg h2]
theorem thirst_sim {n s : Nat} {I J : mm_T} (hs : s < 7) (h0 : I 6 s 0 = J 35 0 s) (h1 : I 6 s 1 = J 36 0 s) (m : Int32) : ∃ x, f_X6_thirst fu n I s m = some x ∧ f_X9_thirst fu J (nI s) m = some (if (0 : Int32) < x then x else (0 : Int32)) := by
  unfold f_X6_thirst f_X9_thirst f_X9_thirst_L20 f_X9_thirst_L37 f_X9_thirst_L47
  simp only [pz_lt_d, pz_gd_t (nI_ix hs (show 7 < 2147483648 by decide)), nI_cl (show s < 2147483648 by omega), h0, h1, mx_eq]
  generalize J 35 0 s = k
  by_cases k1 : k = 1
  · subst k1
    rw [if_pos rfl, if_pos rfl, if_neg (by decide), if_neg (by decide), if_neg (by decide)]; exact ⟨_, rfl, rfl⟩
  · rw [if_neg k1, if_neg k1]
    by_cases k2 : k = 2
    · subst k2
      rw [if_pos rfl, if_neg (by decide), if_neg (by decide), if_neg (by decide)]; exact ⟨_, rfl, rfl⟩
    · rw [if_neg k2]
      by_cases k3 : k = 3
      · subst k3
        rw [if_pos rfl, if_pos rfl, if_neg (by decide), if_neg (by decide)]; exact ⟨_, rfl, rfl⟩
      · rw [if_neg k3, if_neg k3]
        by_cases k4 : k = 4
        · subst k4
          rw [if_pos rfl, if_pos rfl, if_neg (by decide)]; exact ⟨_, rfl, rfl⟩
        · rw [if_neg k4, if_neg k4]
          by_cases k5 : k = 5
          · subst k5
            rw [if_pos rfl, if_pos rfl]; exact ⟨_, rfl, rfl⟩
          · rw [if_neg k5, if_neg k5]; exact ⟨_, rfl, rfl⟩
/-- what one group bears, found out or not -/
def EM (i : Nat) (I I' : mm_T) : Prop := (∀ k, k ≠ 10 → k ≠ 13 → k ≠ 29 → I' k = I k) ∧ ∀ k j, j ≠ i → k ≠ 29 → I' k j = I k j
theorem EM.toF {i : Nat} {A B : mm_T} (h : EM i A B) : EF i A B := ⟨fun k _ h1 h2 => h.1 k (by omega) (by omega) h2, h.2⟩
theorem EQ.toM {i : Nat} {A B : mm_T} (h : EQ i A B) : EM i A B := ⟨fun k h1 _ h2 => h.1 k h1 h2, (EQ.toF h).2⟩
theorem ES.ask2 {r P S a cl th ss i : Nat} {I J I' J' : mm_T} (h : ES r P S a cl th ss i I J) (hi : EM i I I') (hj : RS J J') : ES r P S a cl th ss i I' J' := by
  unfold ES
  rw [hi.1 0 (by decide) (by decide) (by decide), hi.1 15 (by decide) (by decide) (by decide), hi.1 11 (by decide) (by decide) (by decide), hi.1 12 (by decide) (by decide) (by decide), hj.1 39 (by decide), hj.1 40 (by decide), hj.1 41 (by decide), hj.2 32 (by omega), hj.2 33 (by omega), hj.2 34 (by omega), hj.2 35 (by omega), hj.2 36 (by omega), hj.2 39 (by omega), hj.2 40 (by omega)]
  exact h
def bvv (sy : Nat → (Nat → Int32) → Int32) (J : mm_T) (g : Nat) : Int32 := wi 0 (sy 0 (nm (J 9 0 32) (J 9 0 32 - J 39 0 g) (J 40 0 g) 0 (J 9 0 34) (J 9 0 33)))
theorem RS.up35 {J J' : mm_T} (h : RS J J') (v : Int32) : RS (mm_up J 9 0 35 v) (mm_up J' 9 0 35 v) := by
  refine ⟨fun k hk => by rw [mm_up_ne hk, mm_up_ne hk]; exact h.1 k hk, fun j hj => ?_⟩
  rw [mm_get, mm_get]
  by_cases e : j = 35
  · rw [if_pos ⟨rfl, rfl, e⟩, if_pos ⟨rfl, rfl, e⟩]
  · rw [if_neg (fun q => e q.2.2), if_neg (fun q => e q.2.2)]; exact h.2 j hj
set_option maxHeartbeats 8000000 in
theorem leave_L {n r P S a cl ss i : Nat} {sy : Nat → (Nat → Int32) → Int32} {p1 : Int32} : ∀ (d p cnt : Nat) (I J : mm_T) (th th0 km : Nat), p + d = P → d < cnt → EA P S I J → ET r n sy I J → ES r P S a cl th ss i I (mm_up J 9 0 35 (nI th)) → J 9 0 35 = nI th0 → th0 < 2 ^ P → (∀ q, p ≤ q → q < 8 → tb th q = tb th0 q) → km < 256 → (∀ g, g < 8 → tb km g = true → I 13 i g = bvv sy J g) → ∃ I' J' th', f_X0_letLeave_L4 fu n i cnt I (nI km) (nI p) = some I' ∧ f_X9_calls_L168 fu p1 cnt J (nI th) (nI p) = some J' ∧ ES r P S a cl th' ss i I' J' ∧ EF i I I' ∧ RG J J' ∧ I' 14 = I 14 ∧ J' 9 0 33 = J 9 0 33 ∧ J' 9 0 32 = J 9 0 32 ∧ J' 41 = J 41
  | 0, p, cnt + 1, I, J, th, th0, km, hs, hc, A, T, Z, h35, hth0, hge, hkm, hkn => by
    have hP := A.1.1
    have e1 : nI P ≤ nI p := by rw [i32_le, nI_int (by omega), nI_int (by omega)]; omega
    refine ⟨I, mm_up J 9 0 35 (nI th), th, ?_, ?_, Z, EF.refl, ⟨fun k hk _ => mm_up_ne hk, fun j hj => ?_⟩, rfl, by rw [mm_get, if_neg (by omega)], by rw [mm_get, if_neg (by omega)], mm_up_ne (by decide)⟩
    · unfold f_X0_letLeave_L4; rw [A.1.2.2.1, if_pos e1]
    · unfold f_X9_calls_L168; rw [A.1.2.2.2.1, if_pos e1]; rfl
    · rw [mm_get, if_neg (by omega)]
  | d + 1, p, cnt + 1, I, J, th, th0, km, hs, hc, A, T, Z, h35, hth0, hge, hkm, hkn => by
    have hP := A.1.1
    have hS := A.1.2.1
    have hpP : p < P := by omega
    have e256 : 2 ^ P ≤ 256 := (bx_fpc P (by omega)).2.2
    have hthP : th < 2 ^ P := Z.2.1.2.2.1
    have e1 : ¬ nI P ≤ nI p := by rw [i32_le, nI_int (by omega), nI_int (by omega)]; omega
    have step : ∀ (I2 J2 : mm_T) (th2 km2 : Nat), EF i I I2 → RS J J2 → I2 14 = I 14 → ES r P S a cl th2 ss i I2 (mm_up J2 9 0 35 (nI th2)) → (∀ q, p + 1 ≤ q → q < 8 → tb th2 q = tb th0 q) → km2 < 256 → (∀ g, g < 8 → tb km2 g = true → I2 13 i g = bvv sy J2 g) → ∃ I' J' th', f_X0_letLeave_L155 fu n i (f_X0_letLeave_L4 fu n i cnt) I2 (nI km2) (nI p) = some I' ∧ f_X9_calls_L251 fu p1 (f_X9_calls_L168 fu p1 cnt) J2 (nI th2) (nI p) = some J' ∧ ES r P S a cl th' ss i I' J' ∧ EF i I I' ∧ RG J J' ∧ I' 14 = I 14 ∧ J' 9 0 33 = J 9 0 33 ∧ J' 9 0 32 = J 9 0 32 ∧ J' 41 = J 41 := by
      intro I2 J2 th2 km2 q1 q2 q3 q4 q5 q6 q7
      obtain ⟨I', J', th', h1, h2, h3, h4, h5, h6⟩ := leave_L (p1 := p1) d (p + 1) cnt I2 J2 th2 th0 km2 (by omega) (by omega) (A.ev q1 q2.toG) (T.ev q1 q2.toG) q4 (by rw [q2.2 35 (by omega)]; exact h35) hth0 q5 q6 q7
      refine ⟨I', J', th', ?_, ?_, h3, q1.trans h4, q2.toG.trans h5, h6.1.trans q3, h6.2.1.trans (q2.2 33 (by omega)), h6.2.2.1.trans (q2.2 32 (by omega)), h6.2.2.2.trans (q2.1 41 (by decide))⟩
      · unfold f_X0_letLeave_L155; simp only [pz_lt_d, nI_1]; exact h1
      · unfold f_X9_calls_L251; simp only [pz_lt_d, nI_1]; exact h2
    have z15 : I 0 i 15 = nI th := Z.2.1.1
    unfold f_X0_letLeave_L4 f_X9_calls_L168
    rw [A.1.2.2.1, A.1.2.2.2.1, if_neg e1, if_neg e1, z15, h35, bx_test th (by omega) p (by omega), bx_test th0 (by omega) p (by omega), hge p (by omega) (by omega)]
    by_cases hb : tb th0 p = true
    · have n1 : ¬ b01 (tb th0 p) = 0 := by rw [hb]; decide
      rw [if_neg n1, if_pos (by rw [hb]; rfl)]
      obtain ⟨p0, p1', g, hgg, p2⟩ := A.2.2.1 p hpP
      have ip : ix_in (nI p) 8 = true := nI_ix (by omega) (by omega)
      have ig : ix_in (nI g) 8 = true := nI_ix (by omega) (by omega)
      have z1 : I 0 i 1 = nI r := Z.1.1
      have z10 : I 0 i 10 = J 9 0 32 := by have := Z.1.2.1; rw [mm_get, if_neg (by omega)] at this; exact this
      have z11 : I 0 i 11 = J 9 0 33 := by have := Z.1.2.2.1; rw [mm_get, if_neg (by omega)] at this; exact this
      have z12 : I 0 i 12 = J 9 0 34 := by have := Z.1.2.2.2.1; rw [mm_get, if_neg (by omega)] at this; exact this
      have zg1 : I 11 i g = J 39 0 g := by have := (Z.2.2.2.2 g hgg).1; rw [mm_up_ne (by decide)] at this; exact this
      have zg2 : I 12 i g = J 40 0 g := by have := (Z.2.2.2.2 g hgg).2; rw [mm_up_ne (by decide)] at this; exact this
      obtain ⟨J2, k8, k9⟩ := say_r T (part := 0) (by decide) (J 9 0 32 - J 39 0 g) (J 40 0 g) 0
      have hbv : ∀ g, bvv sy J2 g = bvv sy J g := fun g => by
        unfold bvv
        rw [k9.1 39 (by decide), k9.1 40 (by decide), k9.2 32 (by omega), k9.2 33 (by omega), k9.2 34 (by omega)]
      -- both sides hold the answer against the wait
      have fin : ∀ (I2 : mm_T) (km2 : Nat), EM i I I2 → km2 < 256 → tb km2 g = true → (∀ g, g < 8 → tb km2 g = true → I2 13 i g = bvv sy J2 g) → ∃ I' J' th', f_X0_letLeave_L107 fu n i (f_X0_letLeave_L4 fu n i cnt) I2 (nI km2) (nI p) (nI g) (J 9 0 32 - J 39 0 g) = some I' ∧ (if J 9 0 32 - J 39 0 g ≤ J 33 0 p + bvv sy J g then f_X9_calls_L251 fu p1 (f_X9_calls_L168 fu p1 cnt) J2 (nI th) (nI p) else f_X9_calls_L251 fu p1 (f_X9_calls_L168 fu p1 cnt) J2 (nI (cb th p)) (nI p)) = some J' ∧ ES r P S a cl th' ss i I' J' ∧ EF i I I' ∧ RG J J' ∧ I' 14 = I 14 ∧ J' 9 0 33 = J 9 0 33 ∧ J' 9 0 32 = J 9 0 32 ∧ J' 41 = J 41 := by
        intro I2 km2 q1 q2 q3 q4
        unfold f_X0_letLeave_L107
        simp only [pz_gd_t ip, pz_gd_t ig, nI_cl (show p < 2147483648 by omega), nI_cl (show g < 2147483648 by omega), Nat.mul_zero, Nat.zero_add, pz_lt_d]
        have i2 : I2 2 = I 2 := q1.1 2 (by decide) (by decide) (by decide)
        have i0 : I2 0 = I 0 := q1.1 0 (by decide) (by decide) (by decide)
        have i14 : I2 14 = I 14 := q1.1 14 (by decide) (by decide) (by decide)
        rw [i2, p0, q4 g hgg q3, hbv]
        have Z2 : ES r P S a cl th ss i I2 (mm_up J2 9 0 35 (nI th)) := Z.ask2 q1 (k9.up35 _)
        by_cases hx : J 9 0 32 - J 39 0 g ≤ J 33 0 p + bvv sy J g
        · rw [if_pos hx, if_pos hx]
          exact step I2 J2 th km2 q1.toF k9 i14 Z2 (fun q y1 y2 => hge q (by omega) y2) q2 q4
        · rw [if_neg hx, if_neg hx, i0, z15, bx_clr th (by omega) p (by omega)]
          generalize hI3 : mm_up (mm_up I2 0 i 15 (nI (cb th p))) 0 i 13 _ = I3
          have f0 : ∀ k, k ≠ 0 → I3 k = I2 k := fun k hk => by rw [← hI3, mm_up_ne hk, mm_up_ne hk]
          have f0i : ∀ j, j ≠ i → I3 0 j = I2 0 j := fun j hj => by rw [← hI3, mm_up_ni hj, mm_up_ni hj]
          have f0j : ∀ j, j ≠ 13 → j ≠ 15 → I3 0 i j = I2 0 i j := fun j h1 h2 => by rw [← hI3, mm_get, if_neg (fun q => h1 q.2.2), mm_get, if_neg (fun q => h2 q.2.2)]
          have f15 : I3 0 i 15 = nI (cb th p) := by rw [← hI3, mm_get, if_neg (by omega), mm_get, if_pos ⟨rfl, rfl, rfl⟩]
          have hpc := (bx_pc th (by omega) p (by omega)).2
          rw [hge p (by omega) (by omega), hb] at hpc
          have hpc2 : pc th ≤ P := bx_pcP th (by omega) P (by omega) hthP
          have f13 : I3 0 i 13 = nI (P - pc (cb th p)) := by
            rw [← hI3, mm_get, if_pos ⟨rfl, rfl, rfl⟩, mm_get, if_neg (by omega), Z2.2.1.2.2.2, nI_1]
            congr 1
            have : b01N true = 1 := rfl
            omega
          refine step I3 J2 (cb th p) km2 (q1.toF.trans ⟨fun k h1 _ _ => f0 k h1, fun k j h1 _ => ?_⟩) k9 ((f0 14 (by decide)).trans i14) ?_ (fun q y1 y2 => ?_) q2 (fun g' y1 y2 => ?_)
          · by_cases hk : k = 0
            · subst hk; exact f0i j h1
            · rw [f0 k hk]
          · obtain ⟨⟨y1, y2, y3, y4, y5⟩, ⟨y6, y7, y8, y9⟩, ⟨y10, y11, y12, y13⟩, ⟨y14, y15, y16⟩, y17⟩ := Z2
            have m0 : ∀ j, j ≠ 35 → ∀ v, mm_up J2 9 0 35 v 9 0 j = J2 9 0 j := fun j hj v => by rw [mm_get, if_neg (fun q => hj q.2.2)]
            have mk : ∀ k, k ≠ 9 → ∀ v, mm_up J2 9 0 35 v k = J2 k := fun k hk v => mm_up_ne hk
            rw [m0 32 (by decide)] at y2; rw [m0 33 (by decide)] at y3; rw [m0 34 (by decide)] at y4; rw [m0 36 (by decide)] at y5
            rw [m0 39 (by decide)] at y11; rw [m0 40 (by decide)] at y14; rw [mk 41 (by decide)] at y16; rw [mk 39 (by decide), mk 40 (by decide)] at y17
            unfold ES
            rw [m0 32 (by decide), m0 33 (by decide), m0 34 (by decide), m0 36 (by decide), m0 39 (by decide), m0 40 (by decide), mk 41 (by decide), mk 39 (by decide), mk 40 (by decide), f0 15 (by decide), f0 11 (by decide), f0 12 (by decide), f0j 1 (by decide) (by decide), f0j 10 (by decide) (by decide), f0j 11 (by decide) (by decide), f0j 12 (by decide) (by decide), f0j 14 (by decide) (by decide), f0j 9 (by decide) (by decide), f0j 7 (by decide) (by decide), f15, f13]
            exact ⟨⟨y1, y2, y3, y4, y5⟩, ⟨rfl, by rw [mm_get, if_pos ⟨rfl, rfl, rfl⟩], bx_cb th (by omega) p (by omega) P (by omega) hthP, rfl⟩, ⟨y10, y11, y12, y13⟩, ⟨y14, y15, y16⟩, y17⟩
          · rw [(bx_tsb th (by omega) p (by omega) q y2).2, hge q (by omega) y2, decide_eq_false (by omega)]
            cases tb th0 q <;> rfl
          · rw [f0 13 (by decide)]; exact q4 g' y1 y2
      have fin2 : (if J 9 0 32 - J 39 0 g ≤ J 33 0 p + bvv sy J g then f_X9_calls_L251 fu p1 (f_X9_calls_L168 fu p1 cnt) J2 (nI th) (nI p) else f_X9_calls_L251 fu p1 (f_X9_calls_L168 fu p1 cnt) J2 (nI (cb th p)) (nI p)) = pz_bd (f_X9_says fu J 0 (J 9 0 32 - J 39 0 g) (J 40 0 g) 0) fun q_36 => if J 9 0 32 - J 39 0 g ≤ J 33 0 p + q_36.2 then f_X9_calls_L251 fu p1 (f_X9_calls_L168 fu p1 cnt) q_36.1 (nI th) (nI p) else pz_lt (nI th &&& (((1 : Int32) <<< (nI p &&& 31)) ^^^ (-1 : Int32))) fun x_38 => f_X9_calls_L251 fu p1 (f_X9_calls_L168 fu p1 cnt) q_36.1 x_38 (nI p) := by
        rw [show (f_X9_says fu J 0 (J 9 0 32 - J 39 0 g) (J 40 0 g) 0) = _ from k8, pz_bd_s]
        dsimp only
        rw [bx_clr th (by omega) p (by omega)]
        rfl
      simp only [pz_gd_t ip, nI_cl (show p < 2147483648 by omega), Nat.mul_zero, Nat.zero_add, p1', p2, pz_lt_d, pz_gd_t ig, nI_cl (show g < 2147483648 by omega)]
      simp only [pz_lt_d] at fin2
      rw [← fin2, bx_test km hkm g hgg, z10, zg1, zg2]
      by_cases hk : tb km g = true
      · have n2 : ¬ b01 (tb km g) = 0 := by rw [hk]; decide
        rw [if_neg n2]
        exact fin I km EQ.refl.toM hkm hk (fun g' y1 y2 => by rw [hbv]; exact hkn g' y1 y2)
      · have n2 : b01 (tb km g) = 0 := b01_f hk
        rw [if_pos n2]
        obtain ⟨q, f, k1, k2, k3, k4, k5, k6, k7⟩ := say_c T z1 z10 z11 z12 (part := 0) (by decide) (J 9 0 32 - J 39 0 g) (J 40 0 g) 0
        rw [k1, pz_bd_s, k2, z1, pz_gd_t (decide_eq_true (show ¬ nI r = -1 from nI_neg1 (by have := T.2.1; omega))), pz_gd_t (decide_eq_true (by rw [nI_cl (by have := T.2.1; omega)]; exact T.1)), show f_X7_worth fu n q (nI r) 0 i = _ from k5, pz_bd_s]
        dsimp only
        rw [x8_within0, pz_bd_s, bx_set km hkm g hgg]
        have hkb := bx_sb km hkm g hgg 8 (by decide) (by omega) (by omega)
        refine fin _ (sb km g) ?_ (by omega) (by rw [(bx_tsb km hkm g hgg g hgg).1]; simp) (fun g' y1 y2 => ?_)
        · refine ⟨fun k h1 h2 h3 => by rw [mm_up_ne h2]; exact k7.1 k h1 h3, fun k j h1 h3 => ?_⟩
          by_cases hk13 : k = 13
          · subst hk13; rw [mm_up_ni h1, k7.1 13 (by decide) (by decide)]
          · rw [mm_up_ne hk13]; exact k7.toF.2 k j h1 h3
        · rw [mm_get, hbv]
          by_cases hg' : g' = g
          · subst hg'; rw [if_pos ⟨rfl, rfl, rfl⟩]; rfl
          · rw [if_neg (fun q => hg' q.2.2), k7.1 13 (by decide) (by decide)]
            refine hkn g' y1 ?_
            rw [(bx_tsb km hkm g hgg g' y1).1, decide_eq_false hg'] at y2
            simpa using y2
    · have n1 : b01 (tb th0 p) = 0 := b01_f hb
      rw [if_pos n1, if_neg (by rw [Bool.eq_false_iff.mpr hb]; decide)]
      exact step I J th km EF.refl RS.refl rfl Z (fun q y1 y2 => hge q (by omega) y2) hkm hkn
