set_option maxHeartbeats 4000000 in
theorem sim_hold : sm_hold Inv := by
  intro k n I J p1 hk hI
  obtain ⟨c, hc, R⟩ := hI
  have hI : Inv k n I J := ⟨c, hc, R⟩
  obtain ⟨P, S, r, sy, A, T, hr, hm⟩ := R.op
  obtain ⟨v, r1, r2, r3⟩ := row_sim A T p1
  unfold f_X8_hold f_X9_hold
  rw [r1, r2, pz_bd_s, pz_bd_s]
  cases v with
  | false => exact ⟨_, _, rfl, rfl, rfl, hI.mono⟩
  | true =>
    rw [if_neg (show ¬ b01 true = 0 by decide), if_neg (show ¬ b01 true = 0 by decide)]
    obtain ⟨I1, I2, J2, cl, th, ss, o1, o2, o3, o4, o5, o6, o7⟩ := r3 rfl
    have hM := o7 hm
    rw [hr, pz_bd_s, o1, pz_bd_s, o2, pz_bd_s, o3, pz_bd_s, pz_lt_n]
    have R2 : RC c n I2 J2 := R.ev o5.toW o6.toW
    obtain ⟨z1, z10, z11, z12, z14⟩ := o4.1
    rw [z11]
    generalize J2 9 0 33 = mood at hM ⊢
    have c2 : inb (-99 : Int32) (99 : Int32) mood = true := by
      rw [inb_iff, show (-99 : Int32).toInt = -99 by decide, show (99 : Int32).toInt = 99 by decide]; exact hM
    obtain ⟨I', hI'⟩ : ∃ z, z = mm_up (mm_up I2 1 0 4 mood) 1 0 7 ((mm_up I2 1 0 4 mood) 1 0 7 + 1) := ⟨_, rfl⟩
    obtain ⟨J', hJ'⟩ : ∃ z, z = mm_up J2 9 0 15 mood := ⟨_, rfl⟩
    have ech : f_X1_change fu n I2 0 5 0 mood = some I' := by
      unfold f_X1_change f_X1_hasValue
      rw [x1_a5, b01_t c2, hI']
      rfl
    rw [ech, pz_bd_s, ← hJ']
    refine ⟨(I', I' 0 0 12), (J', J' 9 0 34), rfl, rfl, ?_, c + 1, by omega, ?_⟩
    · show I' 0 0 12 = J' 9 0 34
      rw [hI', hJ', mm_up_ne (by decide), mm_up_ne (by decide), mm_get, if_neg (by omega)]; exact z12
    show RC (c + 1) n I' J'
    obtain ⟨P, S, r, tc, B, h1, ⟨⟨g1, g2, g3, g4, g5, g6⟩, ⟨q1, q2, q3, q4, q5, q6⟩, hP, hS⟩, K, T, SS, X, C⟩ := R2
    have hIk : ∀ k, k ≠ 1 → I' k = I2 k := fun k a1 => by rw [hI', mm_up_ne a1, mm_up_ne a1]
    have hJk : ∀ k, k ≠ 9 → J' k = J2 k := fun k a => by rw [hJ', mm_up_ne a]
    have i1 : ∀ j, j ≠ 7 → j ≠ 4 → I' 1 0 j = I2 1 0 j := fun j b b2 => by rw [hI', up_facts.2.2.1 j b, up_facts.2.2.1 j b2]
    have i1x : I' 1 0 4 = mood := by rw [hI', up_facts.2.2.1 4 (by decide), up_facts.2.2.2]
    have i11 : I' 1 1 = I2 1 1 := by rw [hI', mm_up_ni (by decide), mm_up_ni (by decide)]
    have i17 : I' 1 0 7 = I2 1 0 7 + 1 := by rw [hI', up_facts.2.2.2, up_facts.2.2.1 7 (by decide)]
    have j9 : ∀ q, q ≠ 15 → J' 9 0 q = J2 9 0 q := fun q hq => by rw [hJ', up_facts.2.2.1 q hq]
    have j9x : J' 9 0 15 = mood := by rw [hJ', up_facts.2.2.2]
    refine RC.house (P' := P) (S' := S) (r' := r) h1 ?_ ?_ T SS X C (by omega) (fun k a1 a2 a6 => hIk k a1) (fun k a9 a => hJk k a9) (fun j b1 b2 b3 b4 b5 => j9 j (by omega)) i17
    · unfold HI
      rw [hIk 2 (by decide), hIk 6 (by decide), hJk 33 (by decide), hJk 34 (by decide), hJk 35 (by decide), hJk 36 (by decide), hJk 37 (by decide), hJk 38 (by decide), j9 9 (by decide), j9 14 (by decide), j9 4 (by decide), j9x, j9 16 (by decide)]
      exact ⟨⟨g1, g2, by rw [i1 2 (by decide) (by decide)]; exact g3, g4, by rw [i1 3 (by decide) (by decide)]; exact g5, g6⟩, ⟨i1x, by rw [i1 5 (by decide) (by decide)]; exact q2, by rw [i1 6 (by decide) (by decide)]; exact q3, q4, hM.1, hM.2⟩, hP, hS⟩
    · exact K.to (Nat.le_refl tc) (Nat.le_refl S) (by rw [hIk 8 (by decide)]) (fun j _ _ => by rw [i11]) (fun p j => by rw [hIk 2 (by decide)]) (fun s j => by rw [hIk 6 (by decide)]) (j9 52 (by decide)) (j9 53 (by decide)) (j9 54 (by decide)) (j9 55 (by decide)) (j9 56 (by decide)) (by rw [hJk 45 (by decide)]) (by rw [hJk 46 (by decide)]) (fun s hs => by rw [hJk 35 (by decide)])
theorem refuse_L {n r P S : Nat} {sy : Nat → (Nat → Int32) → Int32} {p1 a1 : Int32} : ∀ (d s cnt : Nat) (I J : mm_T) (a2 a3 : Int32), s + d = S → d < cnt → EA P S I J → ET r n sy I J → f_X8_rule fu n I = some (nI r) → ∃ I' J' x, f_X8_refuse_L34 fu n p1 cnt I a1 a2 a3 (nI s) = some (I', x) ∧ f_X9_refuse_L28 fu p1 cnt J a1 a2 a3 (nI s) = some (J', x) ∧ EW I I' ∧ RW J J'
  | 0, s, cnt + 1, I, J, a2, a3, hs, hc, A, T, hr => by
    have hS := A.1.2.1
    have e1 : nI S ≤ nI s := by rw [i32_le, nI_int (by omega), nI_int (by omega)]; omega
    unfold f_X8_refuse_L34 f_X9_refuse_L28
    rw [A.1.2.2.2.2.1, A.1.2.2.2.2.2, if_pos e1, if_pos e1]
    by_cases h : a1 = 0
    · rw [if_pos h, if_pos h]; exact ⟨_, _, _, rfl, rfl, fun _ _ _ _ => rfl, RG.refl.toW⟩
    · rw [if_neg h, if_neg h]; exact ⟨_, _, _, rfl, rfl, fun _ _ _ _ => rfl, RG.refl.toW⟩
  | d + 1, s, cnt + 1, I, J, a2, a3, hs, hc, A, T, hr => by
    have hS := A.1.2.1
    have e1 : ¬ nI S ≤ nI s := by rw [i32_le, nI_int (by omega), nI_int (by omega)]; omega
    obtain ⟨I', J', cl, th, ss, o1, o2, o3, o4, o5, o6, _⟩ := desk_sim A T (a := s) (Or.inl (by omega))
    rw [show oa s = nI s from if_neg (by omega)] at o1
    have hr' : f_X8_rule fu n I' = some (nI r) := (rule_ev o4.toW).trans hr
    unfold f_X8_refuse_L34 f_X9_refuse_L28 f_X8_refuse_L78 f_X9_refuse_L61
    rw [A.1.2.2.2.2.1, A.1.2.2.2.2.2, if_neg e1, if_neg e1, hr, pz_bd_s, o1, pz_bd_s, (bx_bu s (by omega)).1, o2, pz_bd_s, o3.1.2.2.2.1]
    simp only [pz_lt_n, nI_1]
    by_cases h : J' 9 0 34 ≤ a2
    · rw [if_pos h, if_pos h]
      obtain ⟨I2, J2, x, u1, u2, u3, u4⟩ := refuse_L (p1 := p1) (a1 := a1) d (s + 1) cnt I' J' a2 a3 (by omega) (by omega) (A.evd o4 o5) (T.evd o4 o5) hr'
      exact ⟨I2, J2, x, u1, u2, o4.toW.trans u3, o5.toW.trans u4⟩
    · rw [if_neg h, if_neg h]
      obtain ⟨I2, J2, x, u1, u2, u3, u4⟩ := refuse_L (p1 := p1) (a1 := a1) d (s + 1) cnt I' J' (J' 9 0 34) (nI s) (by omega) (by omega) (A.evd o4 o5) (T.evd o4 o5) hr'
      exact ⟨I2, J2, x, u1, u2, o4.toW.trans u3, o5.toW.trans u4⟩
theorem sim_refuse : sm_refuse Inv := by
  intro k n I J p1 hk hI
  obtain ⟨c, hc, R⟩ := hI
  have hI : Inv k n I J := ⟨c, hc, R⟩
  obtain ⟨P, S, r, sy, A, T, hr, hm⟩ := R.op
  unfold f_X8_refuse f_X9_refuse f_X8_refuse_L12
  rw [in_nat (m := 1) (by decide) (by omega), pz_bd_s]
  have main : ∃ z v, (pz_bd (f_X8_rule fu n I) fun q_3 => pz_bd (f_X8_runDesk fu n I q_3 (-1 : Int32)) fun q_4 => pz_lt (q_4 0 0 12) fun x_5 => f_X8_refuse_L34 fu n p1 fu q_4 p1 x_5 (-1 : Int32) (0 : Int32)) = some z ∧ (pz_bd (f_X9_desks fu J (0 : Int32)) fun q_3 => pz_lt (q_3 9 0 34) fun x_4 => f_X9_refuse_L28 fu p1 fu q_3 p1 x_4 (-1 : Int32) (0 : Int32)) = some v ∧ z.2 = v.2 ∧ Inv (k + 6) n z.1 v.1 := by
    obtain ⟨I', J', cl, th, ss, o1, o2, o3, o4, o5, o6, _⟩ := desk_sim A T (a := 7) (Or.inr rfl)
    obtain ⟨I2, J2, x, u1, u2, u3, u4⟩ := refuse_L (p1 := p1) (a1 := p1) S 0 fu I' J' (J' 9 0 34) (-1) (by omega) (by have := A.1.2.1; show S < 1000; omega) (A.evd o4 o5) (T.evd o4 o5) ((rule_ev o4.toW).trans hr)
    rw [hr, pz_bd_s, show f_X8_runDesk fu n I (nI r) (-1) = some I' from o1, pz_bd_s, show f_X9_desks fu J 0 = some J' from o2, pz_bd_s, pz_lt_n, pz_lt_n, o3.1.2.2.2.1]
    exact ⟨_, _, u1, u2, rfl, hI.ev (o4.toW.trans u3) (o5.toW.trans u4)⟩
  by_cases h5 : inr (1 + 1) p1 = true
  · rw [h5, if_neg (show ¬ b01 true = 0 by decide)]
    obtain ⟨t, ht, e⟩ := inr_nI (by omega) h5
    rcases (by omega : t = 0 ∨ t = 1) with h | h
    · rw [if_pos (show p1 = 0 by rw [e, h]; rfl)]; exact main
    · rw [if_neg (show ¬ p1 = 0 by rw [e, h]; decide), if_pos (show p1 = 1 by rw [e, h]; rfl)]; exact main
  · rw [b01_f h5, if_pos (rfl : (0 : Int32) = 0), if_neg (show ¬ p1 = 0 from fun e => h5 (by rw [e]; decide)), if_neg (show ¬ p1 = 1 from fun e => h5 (by rw [e]; decide))]
    exact ⟨_, _, rfl, rfl, rfl, hI.mono⟩
theorem b00 : ∀ w, w < 8 → ((0 : Int32) <<< (nI w &&& 31)) = 0 := by decide
theorem behind_L {n r P S a cl th ss : Nat} {I J : mm_T} (A : EA P S I J) (Z : ES r P S a cl th ss 0 I J) (hB : BG cl ss J) : ∀ (d s cnt : Nat) (a1 a2 : Int32), s + d = S → d < cnt → ∃ x, f_X8_behind_L15 fu n cnt I a1 a2 (nI s) = some (I, x) ∧ f_X9_behind_L11 fu cnt J a1 a2 (nI s) = some (J, x)
  | 0, s, cnt + 1, a1, a2, hs, hc => by
    have hS := A.1.2.1
    have e1 : nI S ≤ nI s := by rw [i32_le, nI_int (by omega), nI_int (by omega)]; omega
    unfold f_X8_behind_L15 f_X9_behind_L11
    rw [A.1.2.2.2.2.1, A.1.2.2.2.2.2, if_pos e1, if_pos e1]; exact ⟨_, rfl, rfl⟩
  | d + 1, s, cnt + 1, a1, a2, hs, hc => by
    have hS := A.1.2.1
    have hP := A.1.1
    have e1 : ¬ nI S ≤ nI s := by rw [i32_le, nI_int (by omega), nI_int (by omega)]; omega
    obtain ⟨s0, s1, s2, s3, w, hw, s4, _⟩ := A.2.2.2 s (by omega)
    obtain ⟨w1, w2, w3⟩ := Z.2.2.2.1
    unfold f_X8_behind_L15 f_X9_behind_L11 f_X8_behind_L65
    rw [A.1.2.2.2.2.1, A.1.2.2.2.2.2, if_neg e1, if_neg e1]
    simp only [pz_gd_t (nI_ix (show s < 7 by omega) (show 7 < 2147483648 by decide)), pz_lt_n, nI_cl (show s < 2147483648 by omega), m70, s3, s4, w1, bx_test ss (show ss < 256 by omega) s (show s < 8 by omega), w3 s (show s < 7 by omega) rfl, nI_1]
    by_cases hb : tb ss s = true
    · obtain ⟨m, hm, em⟩ := hB.2 s (by omega) hb
      rw [if_pos hb, em, if_neg (nI_neg1 (by omega)), hb]
      exact behind_L A Z hB d (s + 1) cnt _ _ (by omega) (by omega)
    · rw [if_neg hb, if_pos (rfl : (-1 : Int32) = -1), Bool.eq_false_iff.mpr hb, show b01 false = 0 from rfl, b00 w (by omega), Int32.or_zero]
      exact behind_L A Z hB d (s + 1) cnt _ _ (by omega) (by omega)
theorem sim_behind : sm_behind Inv := by
  intro k n I J hk hI
  obtain ⟨c, hc, R⟩ := hI
  have hI : Inv k n I J := ⟨c, hc, R⟩
  obtain ⟨P, S, r, sy, A, T, hr, hm⟩ := R.op
  obtain ⟨I', J', cl, th, ss, o1, o2, o3, o4, o5, o6, o7⟩ := desk_sim A T (a := 7) (Or.inr rfl)
  obtain ⟨x, u1, u2⟩ := behind_L (n := n) (A.evd o4 o5) o3 o7 S 0 fu 0 0 (by omega) (by have := A.1.2.1; show S < 1000; omega)
  unfold f_X8_behind f_X9_behind
  rw [hr, pz_bd_s, show f_X8_runDesk fu n I (nI r) (-1) = some I' from o1, pz_bd_s, show f_X9_desks fu J 0 = some J' from o2, pz_bd_s]
  exact ⟨_, _, u1, u2, rfl, hI.ev o4.toW o5.toW⟩
/-! ===== chance ===== -/
def un (cl : Nat) : Nat → Nat → Nat
  | _, 0 => 0
  | s, d + 1 => (if tb cl s = true then 0 else 1) + un cl (s + 1) d
set_option maxRecDepth 100000 in
theorem un_all : ∀ S, S < 8 → ∀ cl, cl < 128 → cl < 2 ^ S → un cl 0 S + pc cl = S := by decide +kernel
theorem un_le {cl : Nat} : ∀ (d s : Nat), un cl s d ≤ d
  | 0, s => Nat.le_refl _
  | d + 1, s => by
    have h := un_le (cl := cl) d (s + 1)
    rw [show un cl s (d + 1) = (if tb cl s = true then 0 else 1) + un cl (s + 1) d from rfl]
    by_cases h2 : tb cl s = true
    · rw [if_pos h2]; omega
    · rw [if_neg h2]; omega
theorem find_L {n r P S cl th ss i : Nat} {I J : mm_T} (A : EA P S I J) (Z : ES r P S 7 cl th ss i I J) {p1 p2 a2 a3 : Int32} (k11 : mm_T → Int32 → Int32 → Option mm_T) : ∀ (d s q cnt1 cnt2 : Nat), s + d = S → d < cnt1 → d < cnt2 → q < un cl s d → ∃ t, t < S ∧ tb (cl ||| bu 7) t = false ∧ f_X0_uncalled_L4 fu n I i p1 cnt1 (nI q) (nI s) = some (nI t) ∧ f_X9_draws_L36 fu p2 k11 cnt2 J a2 a3 (nI q) (nI s) = pz_bd (f_X9_calls fu J (nI t)) fun q_9 => k11 q_9 a2 (a3 + (-1 : Int32))
  | 0, s, q, cnt1 + 1, cnt2 + 1, hs, hc1, hc2, hq => by exact absurd hq (Nat.not_lt_zero q)
  | d + 1, s, q, cnt1 + 1, cnt2 + 1, hs, hc1, hc2, hq => by
    have hS := A.1.2.1
    have l2 := (Z.lt A).2.1
    have hq7 : un cl s (d + 1) ≤ d + 1 := un_le (d + 1) s
    have hqb : q < 8 := by omega
    have e1 : ¬ nI S ≤ nI s := by rw [i32_le, nI_int (by omega), nI_int (by omega)]; omega
    have hor : tb (cl ||| bu 7) s = tb cl s := by rw [bx_osb cl l2 7 (by omega) s (by omega), decide_eq_false (by omega), Bool.or_false]
    unfold f_X0_uncalled_L4 f_X9_draws_L36 f_X0_uncalled_L35 f_X9_draws_L54 f_X9_draws_L74
    unfold un at hq
    rw [A.1.2.2.2.2.1, if_neg e1, was_c A Z (by omega), pz_bd_s, hor, Z.2.2.1.2.1, bx_test cl (by omega) s (by omega)]
    simp only [pz_lt_n, nI_1]
    by_cases hb : tb cl s = true
    · rw [hb]
      rw [if_pos hb] at hq
      rw [if_neg (show ¬ b01 true = 0 by decide), if_pos (show b01 true = 1 by decide), if_pos (show b01 true = 1 by decide), show nI q - 0 = nI q from Int32.sub_zero _]
      exact find_L A Z k11 d (s + 1) q cnt1 cnt2 (by omega) (by omega) (by omega) (by omega)
    · rw [Bool.eq_false_iff.mpr hb]
      rw [if_neg hb] at hq
      rw [if_pos (show b01 false = 0 by decide), if_neg (show ¬ b01 false = 1 by decide), if_neg (show ¬ b01 false = 1 by decide)]
      by_cases h0 : q = 0
      · subst h0
        rw [if_pos (show nI 0 = (0 : Int32) from rfl), if_pos (show nI 0 ≤ (0 : Int32) by decide)]
        exact ⟨s, by omega, by rw [hor]; exact Bool.eq_false_iff.mpr hb, rfl, rfl⟩
      · have e3 : ¬ nI q ≤ 0 := by rw [i32_le, nI_int (by omega), show (0 : Int32).toInt = 0 by decide]; omega
        rw [if_neg (show ¬ nI q = (0 : Int32) from fun e => h0 ((nI_eqM (M := 0) (by omega) (by omega)).mp e)), if_neg e3, nI_pred1 (by omega), show nI q + (-1 : Int32) = nI (q - 1) from by rw [← nI_pred1 (by omega)]; exact (Int32.sub_eq_add_neg _ _).symm]
        exact find_L A Z k11 d (s + 1) (q - 1) cnt1 cnt2 (by omega) (by omega) (by omega) (by omega)
theorem shift_nI (x : Int32) : ∃ m, m < 8388608 ∧ ((x.toUInt32 >>> ((9 : Int32).toUInt32 &&& Int32.toUInt32 31)).toInt32) = nI m := by
  have h9 : ((9 : Int32).toUInt32 &&& Int32.toUInt32 31) = 9 := by decide
  rw [h9]
  have hm : (x.toUInt32 >>> 9).toNat < 8388608 := by
    rw [UInt32.toNat_shiftRight, show (9 : UInt32).toNat % 32 = 9 by decide, Nat.shiftRight_eq_div_pow]
    have := x.toUInt32.toNat_lt
    omega
  refine ⟨_, hm, ?_⟩
  rw [i32_eq, nI_int (by omega)]
  exact BitVec.toInt_eq_toNat_of_lt (x := (x.toUInt32 >>> 9).toBitVec) (by
    have : (x.toUInt32 >>> 9).toBitVec.toNat = (x.toUInt32 >>> 9).toNat := rfl
    omega)
theorem nI_mod {a b : Nat} (ha : a < 2147483648) (hb : b < 2147483648) : nI a - nI a / nI b * nI b = nI (a % b) := by
  rw [nI_div ha hb, show nI (a / b) * nI b = nI (a / b * b) from (Int32.ofNat_mul (a / b) b).symm]
  have h1 := Nat.div_add_mod a b
  rw [Nat.mul_comm] at h1
  rw [nI_subn (by omega)]
  congr 1; omega
set_option maxHeartbeats 4000000 in
theorem draws_L {n r P S i : Nat} {sy : Nat → (Nat → Int32) → Int32} {p1 p2 : Int32} : ∀ (b cnt1 cnt2 cl th ss : Nat) (I J : mm_T) (a2 : Int32), b + pc cl = S → b < cnt1 → b < cnt2 → EA P S I J → ET r n sy I J → ES r P S 7 cl th ss i I J → ∃ I' J' cl' th' ss', f_X0_callByChance_L10 fu n i p1 cnt1 I a2 (nI b) = some I' ∧ f_X9_draws_L11 fu p2 cnt2 J a2 (nI b) = some J' ∧ ES r P S 7 cl' th' ss' i I' J' ∧ EF i I I' ∧ RG J J'
  | 0, cnt1 + 1, cnt2 + 1, cl, th, ss, I, J, a2, hb, hc1, hc2, A, T, Z => by
    refine ⟨I, J, cl, th, ss, ?_, ?_, Z, EF.refl, RG.refl⟩
    · unfold f_X0_callByChance_L10; rw [if_pos (by decide)]
    · unfold f_X9_draws_L11; rw [if_pos (by decide)]
  | b + 1, cnt1 + 1, cnt2 + 1, cl, th, ss, I, J, a2, hb, hc1, hc2, A, T, Z => by
    have hS := A.1.2.1
    have l2 := (Z.lt A).2.1
    have e0 : ¬ nI (b + 1) ≤ 0 := by rw [i32_le, nI_int (by omega), show (0 : Int32).toInt = 0 by decide]; omega
    have e2 : ¬ nI (b + 1) = 0 := fun q => e0 (by rw [q]; decide)
    obtain ⟨m, hm, em⟩ := shift_nI ((a2 * (1103515245 : Int32)) + (12345 : Int32))
    have hun := un_all S (by omega) cl l2 Z.2.2.1.2.2.2.1
    have hq : m % (b + 1) < un cl 0 S := by
      have := Nat.mod_lt m (show 0 < b + 1 by omega)
      omega
    obtain ⟨t, t1, t2, t3, t4⟩ := find_L (n := n) A Z (p1 := nI (m % (b + 1))) (p2 := p2) (a2 := (a2 * (1103515245 : Int32)) + (12345 : Int32)) (a3 := nI (b + 1)) (f_X9_draws_L11 fu p2 cnt2) S 0 (m % (b + 1)) fu fu (by omega) (by show S < 1000; omega) (by show S < 1000; omega) hq
    obtain ⟨I1, J1, th1, ss1, c1, c2, c3, c4, c5, _⟩ := call_sim A T Z t1 t2
    obtain ⟨n1, n2, n3⟩ := pc_new (n := n) (P := P) hS (by omega) Z.2.2.1.2.2.2.1 t1 t2
    obtain ⟨I', J', cl', th', ss', o1, o2, o3, o4, o5⟩ := draws_L (p1 := p1) (p2 := p2) b cnt1 cnt2 (sb cl t) th1 ss1 I1 J1 ((a2 * (1103515245 : Int32)) + (12345 : Int32)) (by omega) (by omega) (by omega) (A.ev c4 c5) (T.ev c4 c5) c3
    have epred : nI (b + 1) + (-1 : Int32) = nI b := by
      have := nI_pred1 (x := b + 1) (by omega)
      rw [Nat.add_sub_cancel] at this
      rw [← this]; exact (Int32.sub_eq_add_neg _ _).symm
    refine ⟨I', J', cl', th', ss', ?_, ?_, o3, c4.trans o4, c5.trans o5⟩
    · unfold f_X0_callByChance_L10 f_X0_uncalled
      simp only [pz_lt_n]
      rw [if_neg e0, pz_gd_t (decide_eq_true e2), em, nI_mod (by omega) (by omega), show f_X0_uncalled_L4 fu n I i (nI (m % (b + 1))) fu (nI (m % (b + 1))) 0 = some (nI t) from t3, pz_bd_s, c1, pz_bd_s, epred]
      exact o1
    · unfold f_X9_draws_L11
      simp only [pz_lt_n]
      rw [if_neg e0, pz_gd_t (decide_eq_true e2), em, nI_mod (by omega) (by omega), show f_X9_draws_L36 fu p2 (f_X9_draws_L11 fu p2 cnt2) fu J _ (nI (b + 1)) (nI (m % (b + 1))) 0 = _ from t4, c2, pz_bd_s, epred]
      exact o2
theorem draws_sim {n r P S : Nat} {sy : Nat → (Nat → Int32) → Int32} {I J : mm_T} (A : EA P S I J) (T : ET r n sy I J) (p1 : Int32) : ∃ I1 I' J' cl th ss, f_X0_begin fu n I 0 (nI r) = some I1 ∧ f_X0_callByChance fu n I1 0 p1 = some I' ∧ f_X9_draws fu J p1 = some J' ∧ ES r P S 7 cl th ss 0 I' J' ∧ EF 0 I I' ∧ RG J J' := by
  have hS := A.1.2.1
  obtain ⟨I1, J1, b1, b2, b3, b4, b5, _⟩ := begin_sim (n := n) (r := r) (i := 0) A T.2.1
  have A1 := A.ev b4 b5
  obtain ⟨I', J', cl, th, ss, o1, o2, o3, o4, o5⟩ := draws_L (p1 := p1) (p2 := p1) S fu fu 0 (2 ^ P - 1) 0 I1 J1 p1 (show S + 0 = S by omega) (by show S < 1000; omega) (by show S < 1000; omega) A1 (T.ev b4 b5) b3
  refine ⟨I1, I', J', cl, th, ss, b1, ?_, ?_, o3, b4.trans o4, b5.trans o5⟩
  · unfold f_X0_callByChance
    rw [A1.1.2.2.2.2.1, pz_lt_n]; exact o1
  · unfold f_X9_draws
    rw [b2, pz_bd_s, A1.1.2.2.2.2.2, pz_lt_n]; exact o2
theorem sim_drawn : sm_drawn Inv := by
  intro k n I J p1 hk hI
  obtain ⟨c, hc, R⟩ := hI
  have hI : Inv k n I J := ⟨c, hc, R⟩
  obtain ⟨P, S, r, sy, A, T, hr, hm⟩ := R.op
  obtain ⟨I1, I', J', cl, th, ss, o1, o2, o3, o4, o5, o6⟩ := draws_sim A T p1
  unfold f_X8_drawn f_X9_drawn
  rw [hr, pz_bd_s, o1, pz_bd_s, o2, pz_bd_s, o3, pz_bd_s, o4.1.2.2.2.1]
  exact ⟨_, _, rfl, rfl, rfl, hI.ev o5.toW o6.toW⟩
