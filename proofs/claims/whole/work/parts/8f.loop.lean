/-! ===== one level, on both sides ===== -/
/-- both sides go on with a segment of code, or both have failed -/
def rd_R (B Sz t : Nat) (w a : Nat → Int32) (o h c p : Nat) (I I' J' : mm_T) (v : Int32) : Prop :=
  (∃ c' p' q', rd_G B Sz t w a o c' p' q' I' J' ∧ c' + p ≤ p' + c ∧ (∀ j, j < c → I' 19 0 j = I 19 0 j) ∧ SEG (I' 19 0) a c c' v h) ∨ rd_F B Sz I' J'
def rd_L (B Sz t : Nat) (w a : Nat → Int32) (o h : Nat) (cf : mm_T → Option mm_T) (rf : mm_T → Option (mm_T × Int32)) : Prop :=
  ∀ (c p q : Nat) (I J : mm_T), rd_G B Sz t w a o c p q I J → c ≤ p → ∃ I' J' v, cf I = some I' ∧ rf J = some (J', v) ∧ fr_I I I' ∧ fr_J J J' ∧ rd_R B Sz t w a o h c p I I' J' v
theorem opb_op {L : Nat} {v : Int32} (h : opb L v = true) : v = 110 ∨ v = 111 ∨ v = 60 ∨ v = 61 ∨ v = 43 ∨ v = 45 ∨ v = 42 := by
  unfold opb at h
  by_cases h0 : L = 0
  · rw [if_pos h0] at h; exact Or.inl (of_decide_eq_true h)
  rw [if_neg h0] at h
  by_cases h1 : L = 1
  · rw [if_pos h1] at h; exact Or.inr (Or.inl (of_decide_eq_true h))
  rw [if_neg h1] at h
  by_cases h2 : L = 2
  · rw [if_pos h2, Bool.or_eq_true, decide_eq_true_eq, decide_eq_true_eq] at h
    rcases h with h | h
    · exact Or.inr (Or.inr (Or.inl h))
    · exact Or.inr (Or.inr (Or.inr (Or.inl h)))
  rw [if_neg h2] at h
  by_cases h3 : L = 3
  · rw [if_pos h3, Bool.or_eq_true, decide_eq_true_eq, decide_eq_true_eq] at h
    rcases h with h | h
    · exact Or.inr (Or.inr (Or.inr (Or.inr (Or.inl h))))
    · exact Or.inr (Or.inr (Or.inr (Or.inr (Or.inr (Or.inl h)))))
  rw [if_neg h3] at h
  exact Or.inr (Or.inr (Or.inr (Or.inr (Or.inr (Or.inr (of_decide_eq_true h))))))
theorem op_is {v : Int32} (h : v = 110 ∨ v = 111 ∨ v = 60 ∨ v = 61 ∨ v = 43 ∨ v = 45 ∨ v = 42) : isop v = true ∧ ¬ v = 1 ∧ ¬ v = 2 ∧ ¬ v = 3 := by
  rcases h with h | h | h | h | h | h | h <;> subst h <;> decide
/-- a token that is none of END, WRONG, NUMBER -/
theorem tk_ge {B Sz p q : Nat} {w : Nat → Int32} {I J : mm_T} (h : tk_ B Sz w p q I J) (n1 : ¬ I 3 0 6 = 1) (n2 : ¬ I 3 0 6 = 2) : p < q ∧ J 9 0 25 = nI q := by
  rcases h with ⟨_, _, i6, _⟩ | ⟨h1, _, _, ⟨_, _, j5, _⟩ | ⟨_, _, _, _, j5, _⟩ | ⟨_, _, j5, _⟩ | ⟨i6, _⟩⟩
  · exact absurd i6 n1
  · exact ⟨h1, j5⟩
  · exact ⟨h1, j5⟩
  · exact ⟨h1, j5⟩
  · exact absurd i6 n2
theorem loop_sim {n B Sz t L o h d : Nat} {w a : Nat → Int32} {rl : Nat → mm_T → Int32 → Option (mm_T × Int32)} {rs : mm_T → Option (mm_T × Int32)} (hL : L < 5)
    (r0 : ∀ (cnt c p q : Nat) (x : Int32) (I J : mm_T), rd_G B Sz t w a o c p q I J → opb L (I 3 0 6) = false → rl (cnt + 1) J x = some (J, x))
    (r1 : ∀ (cnt c p q : Nat) (x : Int32) (I J : mm_T), rd_G B Sz t w a o c p q I J → opb L (I 3 0 6) = true → rl (cnt + 1) J x = pz_bd (f_X9_next fu J) fun y => pz_bd (rs y) fun z => rl cnt z.1 (jo (I 3 0 6) x z.2))
    (rb : ∀ (cnt : Nat) (x : Int32) (J : mm_T), J 9 0 30 = 1 → rl (cnt + 1) J x = some (J, x))
    (sub : rd_L B Sz t w a o h (fun I => f_C3 fu n d 0 I (nI (L + 1)) (nI o)) rs) :
    ∀ (m cnt cnt' c0 p0 c p q i : Nat) (x : Int32) (I J : mm_T), B < p + m → m ≤ cnt → m ≤ cnt' → rd_G B Sz t w a o c p q I J → c ≤ p → i ≤ p → c + p0 ≤ p + c0 → SEG (I 19 0) a c0 c x (h + 1) →
    ∃ I' J' v, f_X3_readLevel_L55 fu n (f_C3 fu n d) (nI L) (nI o) cnt I (nI L) (nI o) 160 (nI i) = some I' ∧ rl cnt' J x = some (J', v) ∧ fr_I I I' ∧ fr_J J J' ∧ rd_R B Sz t w a o (h + 1) c0 p0 I I' J' v
  | 0, _, _, _, _, _, p, q, _, _, _, _, hm, _, _, hG, _, _, _, _ => by
    obtain ⟨_, ⟨h1, h2⟩, _⟩ := hG
    omega
  | m + 1, cnt, cnt', c0, p0, c, p, q, i, x, I, J, hm, hc1, hc2, hG, hcp, hip, hcc, hS => by
    obtain ⟨k, rfl⟩ : ∃ k, cnt = k + 1 := ⟨cnt - 1, by omega⟩
    obtain ⟨k', rfl⟩ : ∃ k, cnt' = k + 1 := ⟨cnt' - 1, by omega⟩
    have hB : B ≤ 160 := by have := hG.1.1; omega
    have hpq := hG.2.1
    have hSp := hS.pos
    by_cases hop : opb L (I 3 0 6) = true
    · have hv := opb_op hop
      obtain ⟨v1, v2, v3, _⟩ := op_is hv
      obtain ⟨hlt, h25⟩ := tk_ge hG.2.2.2.2 v2 v3
      obtain ⟨p1, q1, I1, J1, g1, g2, g3, g4, g5, g6, g7⟩ := adv (n := n) (hG.P h25)
      obtain ⟨I2, J2, x2, s1, s2, s3, s4, s5⟩ := sub c p1 q1 I1 J1 g7 (by omega)
      have s1 : f_C3 fu n d 0 I1 (nI (L + 1)) (nI o) = some I2 := s1
      have e1 : f_X3_readLevel_L55 fu n (f_C3 fu n d) (nI L) (nI o) (k + 1) I (nI L) (nI o) 160 (nI i) = pz_bd (f_X3_emit fu n I2 (-(I 3 0 6))) fun y => f_X3_readLevel_L55 fu n (f_C3 fu n d) (nI L) (nI o) k y (nI L) (nI o) 160 (nI (i + 1)) := by
        rw [f_X3_readLevel_L55, if_neg (show ¬ (160 : Int32) ≤ nI i by rw [i32_le, nI_int (by omega), show (160 : Int32).toInt = 160 by decide]; omega), joins_c hL, hop, pz_bd_n, if_neg (show ¬ b01 true = 0 by decide), pz_lt_n, g1, pz_bd_n, nI_1, s1, pz_bd_n]
        refine congrArg (pz_bd _) (funext fun y => ?_)
        rw [pz_lt_n, nI_1]
      have e2 : rl (k' + 1) J x = rl k' J2 (jo (I 3 0 6) x x2) := by
        rw [r1 k' c p q x I J hG hop, g2, pz_bd_n, s2, pz_bd_n]
      rw [e1, e2]
      rcases s5 with ⟨c2, p2, q2, k1, k2, k3, k4⟩ | hF
      · have hk4 := k4.pos
        have hpq2 := k1.2.1
        rw [emit_g k1.2.2.1.2.1 (show c2 < 160 by omega), pz_bd_n]
        have a1 : ∀ j, j < c2 → em_ I2 c2 (-(I 3 0 6)) 19 0 j = I2 19 0 j := fun j hj => by rw [em_19, upd_ne (by omega)]
        have a2 : ∀ j, j < c → em_ I2 c2 (-(I 3 0 6)) 19 0 j = I 19 0 j := fun j hj => by rw [a1 j (by omega), k3 j hj, g6]
        have hS2 : SEG (em_ I2 c2 (-(I 3 0 6)) 19 0) a c0 (c2 + 1) (jo (I 3 0 6) x x2) (h + 1) :=
          SEG.bin (hS.cong (fun _ _ => rfl) a2) (k4.cong (fun _ _ => rfl) a1) (Nat.le_refl _) v1 (by rw [em_19, upd_at])
        obtain ⟨I', J', v, z1, z2, z3, z4, z5⟩ := loop_sim hL r0 r1 rb sub m k k' c0 p0 (c2 + 1) p2 q2 (i + 1) (jo (I 3 0 6) x x2) (em_ I2 c2 (-(I 3 0 6))) J2 (by omega) (by omega) (by omega) k1.em (by omega) (by omega) (by omega) hS2
        refine ⟨I', J', v, z1, z2, ((g3.tr s3).tr em_fr).tr z3, (g4.tr s4).tr z4, ?_⟩
        rcases z5 with ⟨c3, p3, q3, y1, y2, y3, y4⟩ | z5
        · exact Or.inl ⟨c3, p3, q3, y1, y2, fun j hj => by rw [y3 j hj, a2 j (by omega)], y4⟩
        · exact Or.inr z5
      · obtain ⟨I3, f1, f2, f3⟩ := hF.em (N := fu) (n := n) (-(I 3 0 6))
        obtain ⟨k2, rfl⟩ : ∃ z, k = z + 1 := ⟨k - 1, by omega⟩
        obtain ⟨k3, rfl⟩ : ∃ z, k' = z + 1 := ⟨k' - 1, by omega⟩
        rw [f1, pz_bd_n, l55_end hL (by rw [f3.2.2.1]; exact opb_2 L hL), rb k3 _ J2 hF.2.2.2]
        exact ⟨I3, J2, _, rfl, rfl, (g3.tr s3).tr f2, g4.tr s4, Or.inr f3⟩
    · have hop' := Bool.eq_false_iff.mpr hop
      rw [l55_end hL hop', r0 k' c p q x I J hG hop']
      exact ⟨I, J, x, rfl, rfl, fr_I.rfl', fr_J.rfl', Or.inl ⟨c, p, q, hG, hcc, fun _ _ => rfl, hS⟩⟩
theorem level_sim {n B Sz t L o h d : Nat} {w a : Nat → Int32} {rl : Nat → mm_T → Int32 → Option (mm_T × Int32)} {rs rf : mm_T → Option (mm_T × Int32)} (hL : L < 5) (hL2 : ¬ L = 2)
    (r0 : ∀ (cnt c p q : Nat) (x : Int32) (I J : mm_T), rd_G B Sz t w a o c p q I J → opb L (I 3 0 6) = false → rl (cnt + 1) J x = some (J, x))
    (r1 : ∀ (cnt c p q : Nat) (x : Int32) (I J : mm_T), rd_G B Sz t w a o c p q I J → opb L (I 3 0 6) = true → rl (cnt + 1) J x = pz_bd (f_X9_next fu J) fun y => pz_bd (rs y) fun z => rl cnt z.1 (jo (I 3 0 6) x z.2))
    (rb : ∀ (cnt : Nat) (x : Int32) (J : mm_T), J 9 0 30 = 1 → rl (cnt + 1) J x = some (J, x))
    (hrf : ∀ J, rf J = pz_bd (rs J) fun z => rl fu z.1 z.2)
    (sub : rd_L B Sz t w a o h (fun I => f_C3 fu n d 0 I (nI (L + 1)) (nI o)) rs) : rd_L B Sz t w a o (h + 1) (fun I => f_C3 fu n (d + 1) 0 I (nI L) (nI o)) rf := by
  intro c p q I J hG hcp
  obtain ⟨I1, J1, x1, s1, s2, s3, s4, s5⟩ := sub c p q I J hG hcp
  have s1 : f_C3 fu n d 0 I (nI (L + 1)) (nI o) = some I1 := s1
  have hB : B ≤ 160 := by have := hG.1.1; omega
  have e1 : f_C3 fu n (d + 1) 0 I (nI L) (nI o) = f_X3_readLevel_L55 fu n (f_C3 fu n d) (nI L) (nI o) fu I1 (nI L) (nI o) 160 (nI 0) := by
    rw [lev_lo hL (fun e => absurd e hL2), s1, pz_bd_n, if_neg hL2]; rfl
  have e2 : rf J = rl fu J1 x1 := by rw [hrf, s2, pz_bd_n]
  show ∃ I' J' v, f_C3 fu n (d + 1) 0 I (nI L) (nI o) = some I' ∧ _
  rw [e1, e2]
  rcases s5 with ⟨c1, p1, q1, k1, k2, k3, k4⟩ | hF
  · have hpq := k1.2.1
    obtain ⟨I', J', v, z1, z2, z3, z4, z5⟩ := loop_sim hL r0 r1 rb sub 1000 fu fu c p c1 p1 q1 0 x1 I1 J1 (by omega) (Nat.le_refl 1000) (Nat.le_refl 1000) k1 (by omega) (by omega) k2 (k4.mono (by omega))
    refine ⟨I', J', v, z1, z2, s3.tr z3, s4.tr z4, ?_⟩
    rcases z5 with ⟨c3, p3, q3, y1, y2, y3, y4⟩ | z5
    · exact Or.inl ⟨c3, p3, q3, y1, y2, fun j hj => by rw [y3 j hj, k3 j hj], y4⟩
    · exact Or.inr z5
  · have z1 : f_X3_readLevel_L55 fu n (f_C3 fu n d) (nI L) (nI o) (999 + 1) I1 (nI L) (nI o) 160 (nI 0) = some I1 := l55_end hL (by rw [hF.2.2.1]; exact opb_2 L hL)
    have z2 : rl (999 + 1) J1 x1 = some (J1, x1) := rb 999 x1 J1 hF.2.2.2
    exact ⟨I1, J1, x1, z1, z2, s3, s4, Or.inr hF⟩
