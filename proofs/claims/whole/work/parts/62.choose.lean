/-! ===== the desk's choice ===== -/
theorem b01_eq1 {c : Bool} : b01 c = 1 ↔ c = true := by cases c <;> decide
theorem b01_eq0 {c : Bool} : b01 c = 0 ↔ c = false := by cases c <;> decide
theorem ES.lt {r P S a cl th ss i : Nat} {I J : mm_T} (A : EA P S I J) (Z : ES r P S a cl th ss i I J) : th < 256 ∧ cl < 128 ∧ (cl ||| bu a) < 128 := by
  obtain ⟨⟨hP, hS, _⟩, _⟩ := A
  obtain ⟨_, ⟨_, _, h3, _⟩, ⟨_, _, _, h4, h5⟩, _⟩ := Z
  have e1 : 2 ^ P ≤ 2 ^ 8 := Nat.pow_le_pow_right (by omega) hP
  have e2 : 2 ^ S ≤ 2 ^ 7 := Nat.pow_le_pow_right (by omega) hS
  exact ⟨by omega, by omega, bx_lt cl (by omega) a h5⟩
theorem was_c {n r P S a cl th ss i s : Nat} {I J : mm_T} (A : EA P S I J) (Z : ES r P S a cl th ss i I J) (hs : s < S) : f_X0_wasCalled fu n I i (nI s) = some (b01 (tb (cl ||| bu a) s)) := by
  obtain ⟨l1, l2, l3⟩ := Z.lt A
  have hS := A.1.2.1
  unfold f_X0_wasCalled
  rw [Z.2.2.1.1, bx_test _ (by omega) s (by omega)]
  by_cases h : tb (cl ||| bu a) s = true
  · rw [h, if_pos (by decide)]; rfl
  · rw [Bool.eq_false_iff.mpr h, if_neg (by decide)]; rfl
/-- it would be sung -/
def cs (P th : Nat) (J : mm_T) (s : Nat) : Bool := tb th (J 38 0 s).toNatClampNeg && !decide (J 9 0 16 < J 9 0 32 + J 37 0 s)
theorem would_c {n r P S a cl th ss i s : Nat} {I J : mm_T} (A : EA P S I J) (Z : ES r P S a cl th ss i I J) (hs : s < S) : f_X0_wouldBeSung fu n I i (nI s) = some (b01 (cs P th J s)) := by
  obtain ⟨l1, l2, l3⟩ := Z.lt A
  obtain ⟨⟨hP, hS, _⟩, ⟨_, a5⟩, _, hsl⟩ := A
  obtain ⟨s0, s1, s2, s3, w, hw, s4, _⟩ := hsl s hs
  obtain ⟨⟨_, z10, _⟩, ⟨z15, _⟩, _⟩ := Z
  unfold f_X0_wouldBeSung cs
  rw [pz_gd_t (nI_ix (by omega) (by omega)), nI_cl (by omega), Nat.mul_zero, Nat.zero_add, s3, s4, s2, a5, z15, z10, bx_test _ l1 w (by omega), nI_cl (by omega)]
  by_cases h : tb th w = true
  · rw [h, if_pos (by decide)]
    by_cases h2 : J 9 0 16 < J 9 0 32 + J 37 0 s
    · rw [if_pos h2, decide_eq_true h2]; rfl
    · rw [if_neg h2, decide_eq_false h2]; rfl
  · rw [Bool.eq_false_iff.mpr h, if_neg (by decide)]; rfl
theorem would_r {r P S a cl th ss i s : Nat} {I J : mm_T} (A : EA P S I J) (Z : ES r P S a cl th ss i I J) (hs : s < S) : f_X9_canSing fu J (nI s) = some (b01 (cs P th J s)) := by
  obtain ⟨l1, l2, l3⟩ := Z.lt A
  obtain ⟨⟨hP, hS, _⟩, ⟨_, a5⟩, _, hsl⟩ := A
  obtain ⟨s0, s1, s2, s3, w, hw, s4, _⟩ := hsl s hs
  obtain ⟨_, ⟨_, z35, _⟩, _⟩ := Z
  unfold f_X9_canSing cs
  simp only [pz_gd_t (nI_ix (show s < 7 by omega) (by omega)), nI_cl (show s < 2147483648 by omega)]
  rw [s4, z35, bx_test _ l1 w (by omega), nI_cl (by omega)]
  by_cases h : tb th w = true
  · rw [h, if_pos (by decide)]
    by_cases h2 : J 9 0 16 < J 9 0 32 + J 37 0 s
    · rw [if_pos h2, decide_eq_true h2]; rfl
    · rw [if_neg h2, decide_eq_false h2]; rfl
  · rw [Bool.eq_false_iff.mpr h, if_neg (by decide)]; rfl
def oc (c : Option Nat) : Int32 := match c with
  | none => -1
  | some s => nI s
set_option maxHeartbeats 4000000 in
theorem choose_L {n r P S a cl th ss i : Nat} {sy : Nat → (Nat → Int32) → Int32} : ∀ (d s cnt : Nat) (I J : mm_T) (c : Option Nat) (w : Int32), s + d = S → d < cnt → EA P S I J → ET r n sy I J → ES r P S a cl th ss i I J → (∀ t, c = some t → t < S ∧ tb (cl ||| bu a) t = false) → ∃ I' J' c', f_X0_firstByDesk_L6 fu n i cnt I (oc c) w (nI s) = some (I', oc c') ∧ f_X9_deskCalls_L7 fu (nI (bu a)) cnt J (nI (bu a)) (oc c) w (nI s) = some (J', oc c') ∧ EQ i I I' ∧ RS J J' ∧ ∀ t, c' = some t → t < S ∧ tb (cl ||| bu a) t = false
  | 0, s, cnt + 1, I, J, c, w, hs, hc, A, T, Z, hg => by
    have hS := A.1.2.1
    have e1 : nI S ≤ nI s := by rw [i32_le, nI_int (by omega), nI_int (by omega)]; omega
    refine ⟨I, J, c, ?_, ?_, EQ.refl, RS.refl, hg⟩
    · unfold f_X0_firstByDesk_L6; rw [A.1.2.2.2.2.1, if_pos e1]
    · unfold f_X9_deskCalls_L7; rw [A.1.2.2.2.2.2, if_pos e1]
  | d + 1, s, cnt + 1, I, J, c, w, hs, hc, A, T, Z, hg => by
    have hS := A.1.2.1
    have hP := A.1.1
    have hsS : s < S := by omega
    obtain ⟨l1, l2, l3⟩ := Z.lt A
    have e1 : ¬ nI S ≤ nI s := by rw [i32_le, nI_int (by omega), nI_int (by omega)]; omega
    have step : ∀ (I2 J2 : mm_T) (c2 : Option Nat) (w2 : Int32), EQ i I I2 → RS J J2 → (∀ t, c2 = some t → t < S ∧ tb (cl ||| bu a) t = false) → ∃ I' J' c', f_X0_firstByDesk_L116 fu n i (f_X0_firstByDesk_L6 fu n i cnt) I2 (oc c2) w2 (nI s) = some (I', oc c') ∧ f_X9_deskCalls_L103 fu (nI (bu a)) (f_X9_deskCalls_L7 fu (nI (bu a)) cnt) J2 (nI (bu a)) (oc c2) w2 (nI s) = some (J', oc c') ∧ EQ i I I' ∧ RS J J' ∧ ∀ t, c' = some t → t < S ∧ tb (cl ||| bu a) t = false := by
      intro I2 J2 c2 w2 q1 q2 q3
      obtain ⟨I', J', c', h1, h2, h3, h4, h5⟩ := choose_L d (s + 1) cnt I2 J2 c2 w2 (by omega) (by omega) (A.ev q1.toF q2.toG) (T.ev q1.toF q2.toG) (Z.ask q1 q2) q3
      refine ⟨I', J', c', ?_, ?_, q1.trans h3, q2.trans h4, h5⟩
      · unfold f_X0_firstByDesk_L116; simp only [pz_lt_d, nI_1]; exact h1
      · unfold f_X9_deskCalls_L103; simp only [pz_lt_d, nI_1]; exact h2
    unfold f_X0_firstByDesk_L6 f_X9_deskCalls_L7
    rw [A.1.2.2.2.2.1, A.1.2.2.2.2.2, if_neg e1, if_neg e1, was_c A Z hsS, Z.2.2.1.2.1, bx_or cl l2 a Z.2.2.1.2.2.2.2, bx_test _ (by omega) s (by omega), pz_bd_s]
    by_cases hb : tb (cl ||| bu a) s = true
    · have n1 : ¬ b01 (tb (cl ||| bu a) s) = 0 := by rw [hb]; decide
      rw [if_neg n1, if_neg n1]
      exact step I J c w EQ.refl RS.refl hg
    · have n1 : b01 (tb (cl ||| bu a) s) = 0 := b01_f hb
      rw [if_pos n1, if_pos n1, would_c A Z hsS, would_r A Z hsS, pz_bd_s, pz_bd_s]
      by_cases hw : cs P th J s = true
      · have n2 : ¬ b01 (cs P th J s) = 0 := by rw [hw]; decide
        rw [if_neg n2, if_neg n2]
        obtain ⟨_, _, hpe, hsl⟩ := A
        obtain ⟨s0, s1, s2, s3, v, hv, s4, _⟩ := hsl s hsS
        obtain ⟨p0, p1, g, hgg, p2⟩ := hpe v hv
        have A := (⟨by assumption, by assumption, hpe, hsl⟩ : EA P S I J)
        have ig : ix_in (nI s) 7 = true := nI_ix (by omega) (by omega)
        have iv : ix_in (nI v) 8 = true := nI_ix (by omega) (by omega)
        have igg : ix_in (nI g) 8 = true := nI_ix (by omega) (by omega)
        obtain ⟨⟨z1, z10, z11, z12, _⟩, _, _, _, zg⟩ := Z
        have Z := (⟨⟨z1, z10, z11, z12, by assumption⟩, by assumption, by assumption, by assumption, zg⟩ : ES r P S a cl th ss i I J)
        obtain ⟨zg1, zg2⟩ := zg g hgg
        obtain ⟨q, f, k1, k2, k3, k4, k5, k6, k7⟩ := say_c T z1 z10 z11 z12 (part := 2) (by decide) (J 9 0 32 - J 39 0 g) (J 40 0 g) (J 35 0 s)
        obtain ⟨J2, k8, k9⟩ := say_r T (part := 2) (by decide) (J 9 0 32 - J 39 0 g) (J 40 0 g) (J 35 0 s)
        unfold f_X1_groupOf
        simp only [pz_gd_t ig, nI_cl (show s < 2147483648 by omega), Nat.mul_zero, Nat.zero_add, s3, s4, pz_gd_t iv, nI_cl (show v < 2147483648 by omega), p1, p2, pz_bd_s, pz_gd_t igg, nI_cl (show g < 2147483648 by omega), pz_lt_d, zg1, zg2, z10, s0, k1, k2, z1]
        rw [pz_gd_t (decide_eq_true (show ¬ nI r = -1 from nI_neg1 (by have := T.2.1; omega))), pz_gd_t (decide_eq_true (by rw [nI_cl (by have := T.2.1; omega)]; exact T.1)), show (2 : Int32) = nI 2 from rfl, k5, k8, pz_bd_s, pz_bd_s]
        simp only [show wi 2 = (fun x => x) from funext fun x => by unfold wi; rw [if_neg (by decide), if_neg (by decide)]]
        generalize sy 2 (nm (J 9 0 32) (J 9 0 32 - J 39 0 g) (J 40 0 g) (J 35 0 s) (J 9 0 34) (J 9 0 33)) = x
        have hnew : ∀ t, some s = some t → t < S ∧ tb (cl ||| bu a) t = false := fun t ht => by
          injection ht with ht; subst ht; exact ⟨hsS, Bool.eq_false_iff.mpr hb⟩
        have take := step (mm_row q 29 r f) J2 (some s) x k7 k9 hnew
        cases c with
        | none =>
          rw [if_pos (show oc none = (-1 : Int32) from rfl), if_pos (show oc none = (-1 : Int32) from rfl)]
          exact take
        | some t0 =>
          have n3 : ¬ oc (some t0) = (-1 : Int32) := nI_neg1 (by have := (hg t0 rfl).1; omega)
          rw [if_neg n3, if_neg n3]
          by_cases hx : x ≤ w
          · rw [if_pos hx, if_pos hx]
            exact step (mm_row q 29 r f) J2 (some t0) w k7 k9 hg
          · rw [if_neg hx, if_neg hx]
            exact take
      · have n2 : b01 (cs P th J s) = 0 := b01_f hw
        rw [if_pos n2, if_pos n2]
        exact step I J c w EQ.refl RS.refl hg
theorem choose_sim {n r P S a cl th ss i : Nat} {sy : Nat → (Nat → Int32) → Int32} {I J : mm_T} (A : EA P S I J) (T : ET r n sy I J) (Z : ES r P S a cl th ss i I J) : ∃ I' J' c, f_X0_firstByDesk fu n I i = some (I', oc c) ∧ f_X9_deskCalls fu J (nI (bu a)) = some (J', oc c) ∧ EQ i I I' ∧ RS J J' ∧ ∀ t, c = some t → t < S ∧ tb (cl ||| bu a) t = false :=
  choose_L S 0 fu I J none 0 (by omega) (by have := A.1.2.1; show S < 1000; omega) A T Z (fun t h => by cases h)
