/-! ===== judge, which ===== -/
def SZ (sn z : Nat) (I J : mm_T) : Prop := sn < 4 ∧ z ≤ 40 ∧ I 5 sn 2 = nI z ∧ J 49 0 sn = nI z ∧ (∀ j, j < z → I 27 sn j = J 50 0 (40 * sn + j)) ∧ I 26 0 sn ≠ -1
theorem SZ.ev {sn z : Nat} {I J I' J' : mm_T} (h : SZ sn z I J) (hi : EW I I') (j49 : J' 49 = J 49) (j50 : J' 50 = J 50) : SZ sn z I' J' := by
  unfold SZ
  rw [hi 5 (by decide) (by decide) (by decide), hi 27 (by decide) (by decide) (by decide), hi 26 (by decide) (by decide) (by decide), j49, j50]; exact h
set_option maxHeartbeats 8000000 in
theorem wrong_L {n r P S sn z : Nat} {sy : Nat → (Nat → Int32) → Int32} {p1 : Int32} : ∀ (m k cnt1 cnt2 cnt3 cl th ss : Nat) (I J : mm_T), k + m = 7 → m < cnt1 → m < cnt2 → m < cnt3 → pc cl = k → EA P S I J → ET r n sy I J → ES r P S 7 cl th ss 0 I J → SZ sn z I J → ∃ I' J' w, f_X0_callByDesk_L2 fu n 0 cnt1 I (nI k) = some I' ∧ f_X9_wrongAt_L6 fu p1 cnt2 J (nI sn) (nI k) = some (J', w) ∧ f_X8_judged_L8 fu n sn (nI r) cnt3 I' (nI k) = some (I', w) ∧ EF 0 I I' ∧ RG J J' ∧ (∀ j, j < k → I' 14 0 j = I 14 0 j) ∧ ∃ c, k ≤ c ∧ c ≤ 7 ∧ I' 0 0 7 = nI c
  | m, k, cnt1, cnt2 + 1, cnt3 + 1, cl, th, ss, I, J, hk, hc1, hc2, hc3, hpc, A, T, Z, hz => by
    have hS := A.1.2.1
    obtain ⟨hsn, hz40, z2, z49, zj, z26⟩ := hz
    have hz : SZ sn z I J := ⟨hsn, hz40, z2, z49, zj, z26⟩
    have i4 : ix_in (nI sn) 4 = true := nI_ix hsn (by omega)
    by_cases hzk : z ≤ k
    · obtain ⟨I', J', cl', th', ss', o1, o2, o3, o4, o5, o6, o7, o8, _⟩ := desk_L (sy := sy) m k cnt1 fu cl th ss I J hk hc1 (by show m < 1000; omega) (by omega) A T Z
      have h7 : pc cl' ≤ 7 := bx_pcP cl' (by have := (o3.lt (A.evd o4 o5)).2.1; omega) 7 (by omega) (by have := (o3.lt (A.evd o4 o5)).2.1; omega)
      have ez : nI z ≤ nI k := by rw [i32_le, nI_int (by omega), nI_int (by omega)]; omega
      refine ⟨I', J, -1, o1, ?_, ?_, o4, RG.refl, fun j hj => o8 j (by omega), pc cl', by omega, h7, o3.2.2.1.2.2.1⟩
      · unfold f_X9_wrongAt_L6
        rw [pz_gd_t i4, nI_cl (by omega), z49, if_pos ez]
      · unfold f_X8_judged_L8
        rw [o4.toW 5 (by decide) (by decide) (by decide), z2, if_pos ez]
    · have ez : ¬ nI z ≤ nI k := by rw [i32_le, nI_int (by omega), nI_int (by omega)]; omega
      obtain ⟨I1, J1, c, h1, h2, h3, h4, h5⟩ := choose_sim A T Z
      have h2' : f_X9_deskCalls fu J 0 = some (J1, oc c) := h2
      cases c with
      | none =>
        obtain ⟨I', g1, g2⟩ := idle_L h2 m k cnt1 I hk hc1 A T Z
        refine ⟨I', J1, nI k, g1, ?_, ?_, g2.toF, h4.toG, fun j _ => by rw [g2.1 14 (by decide) (by decide)], k, Nat.le_refl _, by omega, by rw [g2.1 0 (by decide) (by decide), ← hpc]; exact Z.2.2.1.2.2.1⟩
        · unfold f_X9_wrongAt_L6
          rw [pz_gd_t i4, nI_cl (by omega), z49, if_neg ez, h2', pz_bd_s, pz_lt_n, if_pos (show oc none = (-1 : Int32) from rfl)]
        · unfold f_X8_judged_L8
          rw [g2.1 5 (by decide) (by decide), z2, if_neg ez, g2.1 0 (by decide) (by decide), Z.2.2.1.2.2.1, hpc, if_pos (by rw [i32_le]; exact Int.le_refl _)]
      | some t =>
        obtain ⟨x1, x2⟩ := h5 t rfl
        obtain ⟨p1', p2, p3⟩ := pc_new (n := n) (P := P) A.1.2.1 (by omega) Z.2.2.1.2.2.2.1 x1 x2
        match m, hk, hc1, hc2, hc3 with
        | 0, hk, hc1, hc2, hc3 => omega
        | m + 1, hk, hc1, hc2, hc3 =>
          match cnt1, hc1 with
          | cnt1 + 1, hc1 =>
            have A1 := A.ev h3.toF h4.toG
            have T1 := T.ev h3.toF h4.toG
            have Z1 := Z.ask h3 h4
            obtain ⟨I2, J2, th2, ss2, k1, k2, k3, k4, k5, k6, _⟩ := call_sim A1 T1 Z1 x1 x2
            have F2 : EF 0 I I2 := h3.toF.trans k4
            have G2 : RG J J2 := h4.toG.trans k5
            obtain ⟨I', J', w, o1, o2, o3, o4, o5, o6, cc, o7, o8, o9⟩ := wrong_L (p1 := p1) m (k + 1) cnt1 cnt2 cnt3 (sb cl t) th2 ss2 I2 J2 (by omega) (by omega) (by omega) (by omega) (by omega) (A.ev F2 G2) (T.ev F2 G2) k3 (hz.ev F2.toW (G2.1 49 (by decide) (by decide)) (G2.1 50 (by decide) (by decide)))
            have e14 : I' 14 0 k = nI t := by rw [o6 k (by omega), k6, hpc, upd_at]
            have hrun : f_X0_callByDesk_L2 fu n 0 (cnt1 + 1) I (nI k) = some I' := by
              unfold f_X0_callByDesk_L2
              rw [if_neg (by rw [i32_le, nI_int (by omega), show (7 : Int32).toInt = 7 by decide]; omega), h1, pz_bd_s]
              dsimp only
              rw [show oc (some t) = nI t from rfl, k1, pz_bd_s, pz_lt_n, nI_1]
              exact o1
            have F3 : EF 0 I I' := F2.trans o4
            have hcond : ¬ I' 0 0 7 ≤ nI k := by rw [o9, i32_le, nI_int (by omega), nI_int (by omega)]; omega
            have hpre : ∀ j, j < k → I' 14 0 j = I 14 0 j := fun j hj => by
              rw [o6 j (by omega), k6, upd_ne (by omega), h3.1 14 (by decide) (by decide)]
            have i40 : ix_in (nI k) 40 = true := nI_ix (by omega) (by omega)
            have i7 : ix_in (nI k) 7 = true := nI_ix (by omega) (by omega)
            have i160 : ix_in (((40 : Int32) * nI sn) + nI k) 160 = true := by rw [nI_40]; exact nI_ix (by omega) (by omega)
            have c160 : (((40 : Int32) * nI sn) + nI k).toNatClampNeg = 40 * sn + k := by rw [nI_40]; exact nI_cl (by omega)
            have hsheet : I' 27 sn k = J 50 0 (40 * sn + k) := by rw [F3.toW 27 (by decide) (by decide) (by decide)]; exact zj k (by omega)
            by_cases he : nI t = J 50 0 (40 * sn + k)
            · refine ⟨I', J', w, hrun, ?_, ?_, F3, G2.trans o5, hpre, cc, by omega, o8, o9⟩
              · unfold f_X9_wrongAt_L6
                rw [pz_gd_t i4, nI_cl (by omega), z49, if_neg ez, h2', pz_bd_s, pz_lt_n, if_neg (show ¬ oc (some t) = (-1 : Int32) from nI_neg1 (by omega)), pz_gd_t i160, c160]
                dsimp only
                rw [if_pos (show oc (some t) = J1 50 0 (40 * sn + k) from by rw [h4.1 50 (by decide)]; exact he), show oc (some t) = nI t from rfl, k2, pz_bd_s, pz_lt_n, nI_1]
                exact o2
              · unfold f_X8_judged_L8
                rw [F3.toW 5 (by decide) (by decide) (by decide), z2, if_neg ez, if_neg hcond, pz_gd_t i40, pz_gd_t i7, nI_cl (by omega), hsheet, e14, if_pos he.symm, pz_lt_n, nI_1]
                exact o3
            · refine ⟨I', J1, nI k, hrun, ?_, ?_, F3, h4.toG, hpre, cc, by omega, o8, o9⟩
              · unfold f_X9_wrongAt_L6
                rw [pz_gd_t i4, nI_cl (by omega), z49, if_neg ez, h2', pz_bd_s, pz_lt_n, if_neg (show ¬ oc (some t) = (-1 : Int32) from nI_neg1 (by omega)), pz_gd_t i160, c160]
                dsimp only
                rw [if_neg (show ¬ oc (some t) = J1 50 0 (40 * sn + k) from by rw [h4.1 50 (by decide)]; exact he)]
              · unfold f_X8_judged_L8
                rw [F3.toW 5 (by decide) (by decide) (by decide), z2, if_neg ez, if_neg hcond, pz_gd_t i40, pz_gd_t i7, nI_cl (by omega), hsheet, e14, if_neg (fun e => he e.symm)]
theorem judged_sim {n r P S sn z : Nat} {sy : Nat → (Nat → Int32) → Int32} {I J : mm_T} (A : EA P S I J) (T : ET r n sy I J) (hz : SZ sn z I J) : ∃ I' J' w, f_X8_judged fu n I sn (nI r) = some (I', w) ∧ f_X9_wrongAt fu J (nI sn) = some (J', w) ∧ EF 0 I I' ∧ RG J J' := by
  obtain ⟨I1, J1, h1, h2, h3, h4, h5, _⟩ := begin_sim (n := n) (r := r) (i := 0) A T.2.1
  have A1 := A.ev h4 h5
  obtain ⟨I', J', w, o1, o2, o3, o4, o5, _⟩ := wrong_L (sy := sy) (p1 := nI sn) 7 0 fu fu fu 0 (2 ^ P - 1) 0 I1 J1 (by omega) (by show 7 < 1000; omega) (by show 7 < 1000; omega) (by show 7 < 1000; omega) rfl A1 (T.ev h4 h5) h3 (hz.ev h4.toW (h5.1 49 (by decide) (by decide)) (h5.1 50 (by decide) (by decide)))
  have hl : f_X0_leaveOut fu n I1 0 (-1) = some I1 := by
    unfold f_X0_leaveOut
    rw [x1_hasSlip A1.1.2.2.2.2.1 (by have := A.1.2.1; omega), pz_bd_s, if_pos (b01_f (by rw [inr_iff, show (-1 : Int32).toInt = -1 by decide]; omega))]
  refine ⟨I', J', w, ?_, ?_, h4.trans o4, h5.trans o5⟩
  · unfold f_X8_judged f_X8_runDesk f_X0_callByDesk
    rw [h1, pz_bd_s, hl, pz_bd_s, show f_X0_callByDesk_L2 fu n 0 fu I1 0 = some I' from o1, pz_bd_s, pz_bd_s]
    exact o3
  · unfold f_X9_wrongAt
    rw [h2, pz_bd_s]; exact o2
/-- the four sheets' numbers, on both sides -/
theorem sheet_no {N : Nat} {p : Int32} : f_X8_isSheet N p = some (b01 (inr (3 + 1) p)) := by
  unfold f_X8_isSheet
  by_cases h : inr (3 + 1) p = true
  · obtain ⟨h1, h2, h3⟩ := inr_le (by omega) h
    rw [if_neg h1, if_neg (by rw [i32_le]; rw [i32_lt] at h3; rw [show (4 : Int32) = nI 4 from rfl]; exact Int.not_le.mpr h3), h]; rfl
  · rw [b01_f h]
    rcases inr_nle (by omega) h with h | ⟨h1, h2⟩
    · rw [if_pos h]
    · rw [if_neg h1, if_pos (by
        rw [i32_le, nI_int (by omega)] at h2
        rw [i32_le, show (4 : Int32).toInt = 4 by decide]; omega)]
theorem bad_r {J : mm_T} {p : Int32} : f_X9_tellBad fu J p = if inr (3 + 1) p = true then (if J 47 0 p.toNatClampNeg = 0 then some (-11 : Int32) else some 0) else some (-2 : Int32) := by
  unfold f_X9_tellBad f_X9_isSheet
  rw [in_nat (m := 3) (by decide) (by omega), pz_bd_s, pz_gd_t b01_z, pz_bd_s]
  by_cases h : inr (3 + 1) p = true
  · obtain ⟨t, ht, rfl⟩ := inr_nI (by omega) h
    rw [h, if_neg (show ¬ b01 true = 0 by decide), if_pos rfl, pz_gd_t (nI_ix (by omega) (by omega))]
  · rw [b01_f h, if_pos (rfl : (0 : Int32) = 0), if_neg h]
theorem RC.sheets {c n : Nat} {I J : mm_T} (h : RC c n I J) {s : Nat} (hs : s < 4) : I 26 0 s ≠ -1 ∧ ((I 5 s 1 = -1 ∧ J 47 0 s = 0) ∨ (¬ I 5 s 1 = -1 ∧ ¬ J 47 0 s = 0 ∧ ∃ z, SZ s z I J)) := by
  obtain ⟨P, S, r, tc, B, h1, H, K, T, SS, X, C⟩ := h
  obtain ⟨a1, a2⟩ := SS s hs
  refine ⟨a1, ?_⟩
  rcases a2 with a2 | ⟨so, z, b1, b2, b3, b4, b5, b6, b7, b8⟩
  · exact Or.inl a2
  · refine Or.inr ⟨by rw [b4]; exact nI_neg1 (by omega), by rw [b3]; decide, z, hs, b2, b6, b7, b8, a1⟩
theorem sim_judge : sm_judge Inv := by
  intro k n I J p1 hk hI
  obtain ⟨c, hc, R⟩ := hI
  have hI : Inv k n I J := ⟨c, hc, R⟩
  obtain ⟨P, S, r, sy, A, T, hr, hm⟩ := R.op
  unfold f_X8_judge f_X9_judge
  rw [sheet_no, bad_r, pz_bd_s]
  by_cases h : inr (3 + 1) p1 = true
  · obtain ⟨s, hs, rfl⟩ := inr_nI (by omega) h
    obtain ⟨s1, s2⟩ := R.sheets hs
    have i4 : ix_in (nI s) 4 = true := nI_ix (by omega) (by omega)
    rw [if_pos h, h, if_neg (show ¬ b01 true = 0 by decide), pz_gd_t i4, nI_cl (by omega), pz_gd_t (decide_eq_true s1)]
    rcases s2 with ⟨s2, s3⟩ | ⟨s2, s3, z, hz⟩
    · rw [if_pos s2, if_pos s3, pz_bd_s, if_neg (by decide)]; exact ⟨_, _, rfl, rfl, rfl, hI.mono⟩
    · obtain ⟨I', J', w, o1, o2, o3, o4⟩ := judged_sim A T hz
      rw [if_neg s2, if_neg s3, pz_gd_t i4, pz_gd_t (decide_eq_true s1), pz_bd_s, if_pos rfl, hr, pz_bd_s, o1, o2, pz_bd_s, pz_bd_s]
      exact ⟨_, _, rfl, rfl, rfl, hI.ev o3.toW o4.toW⟩
  · rw [if_neg h, b01_f h, if_pos (rfl : (0 : Int32) = 0), pz_bd_s, if_neg (by decide)]; exact ⟨_, _, rfl, rfl, rfl, hI.mono⟩
def XT (tc n : Nat) (I J : mm_T) : Prop := tc ≤ 6 ∧ 3 * tc + 141 ≤ n ∧ I 8 0 5 = nI tc ∧ J 9 0 3 = nI tc ∧ ∀ t, t < tc → I 20 0 t = nI t ∧ ∃ sy, TX t (I 7 t) (I 28 t) (J 30 0) (J 31 0) sy
theorem XT.ev {tc n : Nat} {I J I' J' : mm_T} (h : XT tc n I J) (hi : EW I I') (j3 : J' 9 0 3 = J 9 0 3) (j30 : J' 30 = J 30) (j31 : J' 31 = J 31) : XT tc n I' J' := by
  unfold XT
  rw [hi 8 (by decide) (by decide) (by decide), hi 20 (by decide) (by decide) (by decide), hi 7 (by decide) (by decide) (by decide), hi 28 (by decide) (by decide) (by decide), j3, j30, j31]; exact h
/-- as RW, the rule's number aside -/
def R4 (J J' : mm_T) : Prop := (∀ k, k ≠ 9 → (k < 39 ∨ 44 < k) → J' k = J k) ∧ ∀ j, j ≠ 4 → (j < 17 ∨ 49 < j) → J' 9 0 j = J 9 0 j
theorem RW.to4 {A B : mm_T} (h : RW A B) : R4 A B := ⟨h.1, fun j _ a => h.2 j a⟩
theorem R4.trans {A B C : mm_T} (h : R4 A B) (g : R4 B C) : R4 A C := ⟨fun k a b => (g.1 k a b).trans (h.1 k a b), fun j a b => (g.2 j a b).trans (h.2 j a b)⟩
theorem R4.up (J : mm_T) (v : Int32) : R4 J (mm_up J 9 0 4 v) := ⟨fun k a _ => mm_up_ne a, fun j a _ => by rw [mm_get, if_neg (fun q => a q.2.2)]⟩
theorem EA.ev4 {P S : Nat} {I J I' J' : mm_T} (h : EA P S I J) (hi : EW I I') (hj : R4 J J') : EA P S I' J' := by
  unfold EA
  rw [hi 1 (by decide) (by decide) (by decide), hi 2 (by decide) (by decide) (by decide), hi 6 (by decide) (by decide) (by decide), hj.2 9 (by omega) (by omega), hj.2 14 (by omega) (by omega), hj.2 15 (by omega) (by omega), hj.2 16 (by omega) (by omega), hj.1 33 (by omega) (by omega), hj.1 34 (by omega) (by omega), hj.1 35 (by omega) (by omega), hj.1 36 (by omega) (by omega), hj.1 37 (by omega) (by omega), hj.1 38 (by omega) (by omega)]
  exact h
set_option maxHeartbeats 4000000 in
theorem which_L {n P S sn z tc : Nat} {p1 a3 : Int32} : ∀ (d t cnt : Nat) (I J : mm_T) (a2 : Int32), t + d = tc → d < cnt → EA P S I J → XT tc n I J → J 9 0 4 = nI t → SZ sn z I J → ∃ I' J' x, f_X8_which_L30 fu n p1 cnt I (nI sn) a2 (nI t) = some (I', x) ∧ f_X9_which_L25 fu p1 cnt J (nI sn) a3 a2 = some (J', x) ∧ EW I I' ∧ R4 J J' ∧ J' 9 0 4 = a3
  | 0, t, cnt + 1, I, J, a2, ht, hc, A, X, h4, hz => by
    have e1 : nI tc ≤ nI t := by rw [i32_le, nI_int (by have := X.1; omega), nI_int (by have := X.1; omega)]; omega
    refine ⟨I, mm_up J 9 0 4 a3, a2, ?_, ?_, fun _ _ _ _ => rfl, R4.up J a3, by rw [mm_get, if_pos ⟨rfl, rfl, rfl⟩]⟩
    · unfold f_X8_which_L30; rw [X.2.2.1, if_pos e1]
    · unfold f_X9_which_L25; rw [X.2.2.2.1, h4, if_pos e1]; rfl
  | d + 1, t, cnt + 1, I, J, a2, ht, hc, A, X, h4, hz => by
    have htc : tc ≤ 6 := X.1
    have e1 : ¬ nI tc ≤ nI t := by rw [i32_le, nI_int (by omega), nI_int (by omega)]; omega
    obtain ⟨x1, sy, x2⟩ := X.2.2.2.2 t (by omega)
    have T : ET t n sy I J := ⟨by have := X.2.1; omega, by omega, h4, x2⟩
    obtain ⟨I1, J1, w, o1, o2, o3, o4⟩ := judged_sim A T hz
    have i4 : ix_in (nI sn) 4 = true := nI_ix hz.1 (by omega)
    have j4 : J1 9 0 4 = nI t := (o4.2 4 (by omega)).trans h4
    have R2 : R4 J (mm_up J1 9 0 4 (nI (t + 1))) := o4.toW.to4.trans (R4.up _ _)
    have next : ∀ a2', ∃ I' J' x, f_X8_which_L30 fu n p1 cnt I1 (nI sn) a2' (nI (t + 1)) = some (I', x) ∧ f_X9_which_L25 fu p1 cnt (mm_up J1 9 0 4 (nI (t + 1))) (nI sn) a3 a2' = some (J', x) ∧ EW I I' ∧ R4 J J' ∧ J' 9 0 4 = a3 := by
      intro a2'
      obtain ⟨I', J', x, u1, u2, u3, u4, u5⟩ := which_L (p1 := p1) (a3 := a3) d (t + 1) cnt I1 (mm_up J1 9 0 4 (nI (t + 1))) a2' (by omega) (by omega) (A.ev4 o3.toW R2) (X.ev o3.toW (R2.2 3 (by omega) (by omega)) (R2.1 30 (by omega) (by omega)) (R2.1 31 (by omega) (by omega))) (by rw [mm_get, if_pos ⟨rfl, rfl, rfl⟩]) (hz.ev o3.toW (R2.1 49 (by omega) (by omega)) (R2.1 50 (by omega) (by omega)))
      exact ⟨I', J', x, u1, u2, o3.toW.trans u3, R2.trans u4, u5⟩
    unfold f_X8_which_L30 f_X9_which_L25 f_X8_which_L64 f_X9_which_L52
    rw [X.2.2.1, X.2.2.2.1, h4, if_neg e1, if_neg e1, pz_gd_t i4, nI_cl (by have := hz.1; omega), pz_gd_t (decide_eq_true hz.2.2.2.2.2), pz_gd_t (nI_ix (by omega) (by omega)), nI_cl (by omega), x1, pz_gd_t (decide_eq_true (nI_neg1 (by omega))), o1, pz_bd_s, o2, pz_bd_s]
    simp only [pz_lt_n, j4, nI_1]
    by_cases hw : w = -1
    · rw [if_pos hw, if_pos hw]
      exact next _
    · rw [if_neg hw, if_neg hw, b00 t (by omega), Int32.or_zero]
      exact next _
theorem sim_which : sm_which Inv := by
  intro k n I J p1 hk hI
  obtain ⟨c, hc, R⟩ := hI
  have hI : Inv k n I J := ⟨c, hc, R⟩
  obtain ⟨P, S, r, sy, A, T, hr, hm⟩ := R.op
  unfold f_X8_which f_X9_which
  rw [sheet_no, bad_r, pz_bd_s]
  by_cases h : inr (3 + 1) p1 = true
  · obtain ⟨s, hs, rfl⟩ := inr_nI (by omega) h
    obtain ⟨s1, s2⟩ := R.sheets hs
    have i4 : ix_in (nI s) 4 = true := nI_ix (by omega) (by omega)
    rw [if_pos h, h, if_neg (show ¬ b01 true = 0 by decide), pz_gd_t i4, nI_cl (by omega), pz_gd_t (decide_eq_true s1)]
    rcases s2 with ⟨s2, s3⟩ | ⟨s2, s3, z, hz⟩
    · rw [if_pos s2, if_pos s3, pz_bd_s, if_neg (by decide)]; exact ⟨_, _, rfl, rfl, rfl, hI.mono⟩
    · have X : ∃ tc, XT tc n I J := by
        obtain ⟨P, S, r, tc, B, h1, H, K, T, SS, ⟨y1, y2, y3, y4, y5, y6, y7⟩, C⟩ := R
        exact ⟨tc, y3, by omega, y4, y5, fun t ht => ⟨y6 t ht, y7 t ht⟩⟩
      obtain ⟨tc, X⟩ := X
      have R0 := R4.up J 0
      obtain ⟨I', J', x, u1, u2, u3, u4, u5⟩ := which_L (p1 := nI s) (a3 := J 9 0 4) tc 0 fu I (mm_up J 9 0 4 0) 0 (by omega) (by have := X.1; show tc < 1000; omega) (A.ev4 (fun _ _ _ _ => rfl) R0) (X.ev (fun _ _ _ _ => rfl) (R0.2 3 (by omega) (by omega)) (R0.1 30 (by omega) (by omega)) (R0.1 31 (by omega) (by omega))) (by rw [mm_get, if_pos ⟨rfl, rfl, rfl⟩]; rfl) (hz.ev (fun _ _ _ _ => rfl) (R0.1 49 (by omega) (by omega)) (R0.1 50 (by omega) (by omega)))
      have R5 := R0.trans u4
      rw [if_neg s2, if_neg s3, pz_bd_s, if_pos rfl]
      simp only [pz_lt_n]
      refine ⟨_, _, u1, u2, rfl, hI.ev u3 ⟨R5.1, fun j hj => ?_⟩⟩
      by_cases e : j = 4
      · subst e; exact u5
      · exact R5.2 j e hj
  · rw [if_neg h, b01_f h, if_pos (rfl : (0 : Int32) = 0), pz_bd_s, if_neg (by decide)]; exact ⟨_, _, rfl, rfl, rfl, hI.mono⟩
/-! ===== chance, as a fraction ===== -/
def g77 : Nat → Int64 → Int64 → Option Int64
  | 0, _, _ => none
  | cnt + 1, a6, a8 => if (lg_cmp a8 (0 : Int64)) = 0 then (if a6 = 0 then none else some a6) else (if a8 = 0 then none else g77 cnt a8 (a6 - a6 / a8 * a8))
theorem g77_L {p1 p2 p3 a2 a3 : Int32} {J : mm_T} {a4 g : Int64} : ∀ (cnt : Nat) (a6 a8 : Int64), g77 cnt a6 a8 = some g → f_X9_chance_L77 fu p1 p2 p3 cnt J a2 a3 a4 a6 a8 = if a3 = 0 then some (J, a4 / g) else some (J, (a2.toInt64) / g)
  | 0, a6, a8, h => by cases h
  | cnt + 1, a6, a8, h => by
    unfold g77 at h
    unfold f_X9_chance_L77
    by_cases h1 : (lg_cmp a8 (0 : Int64)) = 0
    · rw [if_pos h1] at h; rw [if_pos h1]
      by_cases h2 : a6 = 0
      · rw [if_pos h2] at h; cases h
      · rw [if_neg h2] at h
        injection h with h
        subst h
        rw [pz_gd_t (decide_eq_true h2), pz_gd_t (decide_eq_true h2)]
    · rw [if_neg h1] at h; rw [if_neg h1]
      by_cases h2 : a8 = 0
      · rw [if_pos h2] at h; cases h
      · rw [if_neg h2] at h
        rw [pz_gd_t (decide_eq_true h2), pz_lt_n]
        exact g77_L cnt _ _ h
def chk (c m : Nat) : Bool := match g77 fu (nI c).toInt64 (nI m).toInt64, f_X8_commonDivisor fu (nI c) (nI m) with
  | some g, some q => decide (¬ q = 0 ∧ (nI c / q).toInt64 = (nI c).toInt64 / g ∧ (nI m / q).toInt64 = (nI m).toInt64 / g)
  | _, _ => false
set_option maxRecDepth 100000 in
theorem chk_all : ∀ c, c < 21 → ∀ m, m < 21 → 0 < m → chk c m = true := by decide +kernel
set_option maxHeartbeats 4000000 in
theorem chance_L {n r P S : Nat} {sy : Nat → (Nat → Int32) → Int32} {p1 p2 p3 a1 a3 : Int32} {m : Nat} (hm : m < 21) (hm0 : 0 < m) : ∀ (d s cnt c : Nat) (I J : mm_T), s + d = m → d < cnt → c ≤ s → EA P S I J → ET r n sy I J → f_X8_rule fu n I = some (nI r) → ∃ I' J' x, f_X8_chance_L30 fu n p1 p2 p3 cnt I a1 (nI m) a3 (nI c) (nI s) = some (I', x) ∧ f_X9_chance_L32 fu p1 p2 p3 cnt J a1 (nI m) a3 (nI c).toInt64 (nI s) = some (J', x) ∧ EW I I' ∧ RW J J'
  | 0, s, cnt + 1, c, I, J, hs, hc, hcs, A, T, hr => by
    have e1 : nI m ≤ nI s := by rw [i32_le, nI_int (by omega), nI_int (by omega)]; omega
    have hk := chk_all c (by omega) m hm hm0
    unfold chk at hk
    unfold f_X8_chance_L30 f_X9_chance_L32
    rw [if_pos e1, if_pos e1, pz_lt_n]
    cases hg : g77 fu (nI c).toInt64 (nI m).toInt64 with
    | none => rw [hg] at hk; cases hk
    | some g =>
      cases hq : f_X8_commonDivisor fu (nI c) (nI m) with
      | none => rw [hg, hq] at hk; cases hk
      | some q =>
        rw [hg, hq] at hk
        obtain ⟨k1, k2, k3⟩ := of_decide_eq_true hk
        rw [pz_bd_s, g77_L fu _ _ hg]
        by_cases h3 : a3 = 0
        · rw [if_pos h3, if_pos h3, pz_gd_t (decide_eq_true k1), k2]; exact ⟨_, _, _, rfl, rfl, fun _ _ _ _ => rfl, RG.refl.toW⟩
        · rw [if_neg h3, if_neg h3, pz_gd_t (decide_eq_true k1), k3]; exact ⟨_, _, _, rfl, rfl, fun _ _ _ _ => rfl, RG.refl.toW⟩
  | d + 1, s, cnt + 1, c, I, J, hs, hc, hcs, A, T, hr => by
    have e1 : ¬ nI m ≤ nI s := by rw [i32_le, nI_int (by omega), nI_int (by omega)]; omega
    obtain ⟨I1, I2, J2, cl, th, ss, o1, o2, o3, o4, o5, o6⟩ := draws_sim A T (a1 + nI s)
    have A2 := A.ev o5 o6
    have hr2 := (rule_ev o5.toW).trans hr
    have hl := left_sim A2 o4
    have next : ∀ c', c' ≤ s + 1 → ∃ I' J' x, f_X8_chance_L30 fu n p1 p2 p3 cnt I2 a1 (nI m) a3 (nI c') (nI (s + 1)) = some (I', x) ∧ f_X9_chance_L32 fu p1 p2 p3 cnt J2 a1 (nI m) a3 (nI c').toInt64 (nI (s + 1)) = some (J', x) ∧ EW I I' ∧ RW J J' := by
      intro c' hc'
      obtain ⟨I', J', x, u1, u2, u3, u4⟩ := chance_L (p1 := p1) (p2 := p2) (p3 := p3) (a1 := a1) (a3 := a3) hm hm0 d (s + 1) cnt c' I2 J2 (by omega) (by omega) hc' A2 (T.ev o5 o6) hr2
      exact ⟨I', J', x, u1, u2, o5.toW.trans u3, o6.toW.trans u4⟩
    unfold f_X8_chance_L30 f_X9_chance_L32 f_X8_chance_L71 f_X9_chance_L60
    rw [if_neg e1, if_neg e1, hr, pz_bd_s, o1, pz_bd_s, o2, pz_bd_s, o3, pz_bd_s, hl, pz_bd_s, o4.2.1.2.2.2]
    simp only [pz_lt_n, nI_1]
    by_cases h0 : nI (P - pc th) = 0
    · rw [if_pos h0, if_pos h0]
      have : (nI c).toInt64 + (1 : Int64) = (nI (c + 1)).toInt64 := by
        have h : ∀ c, c < 21 → (nI c).toInt64 + (1 : Int64) = (nI (c + 1)).toInt64 := by decide
        exact h c (by omega)
      rw [this]
      exact next (c + 1) (by omega)
    · rw [if_neg h0, if_neg h0, Int64.add_zero]
      exact next c (by omega)
theorem sim_chance : sm_chance Inv := by
  intro k n I J p1 p2 p3 hk hI
  obtain ⟨c, hc, R⟩ := hI
  have hI : Inv k n I J := ⟨c, hc, R⟩
  obtain ⟨P, S, r, sy, A, T, hr, hm⟩ := R.op
  unfold f_X8_chance f_X9_chance
  rw [show f_X9_in fu p2.toInt64 (1 : Int64) (20 : Int64) = some (b01 (inb 1 20 p2)) from by
    rw [show (1 : Int64) = (1 : Int32).toInt64 by decide, show (20 : Int64) = (20 : Int32).toInt64 by decide]; exact x9_in, in_nat (m := 1) (by decide) (by omega), pz_bd_s, pz_bd_s]
  by_cases h : inb 1 20 p2 = true
  · have h' := inb_iff.mp h
    rw [show (1 : Int32).toInt = 1 by decide, show (20 : Int32).toInt = 20 by decide] at h'
    have n1 : ¬ p2 < 1 := by rw [i32_lt, show (1 : Int32).toInt = 1 by decide]; omega
    have n2 : ¬ (20 : Int32) < p2 := by rw [i32_lt, show (20 : Int32).toInt = 20 by decide]; omega
    rw [h, if_neg (show ¬ b01 true = 0 by decide), if_neg n1, if_neg n2]
    by_cases h3 : inr (1 + 1) p3 = true
    · obtain ⟨w1, w2, _⟩ := inr_le (by omega) h3
      rw [h3, if_neg (show ¬ b01 true = 0 by decide), if_neg w1, if_pos (show p3 ≤ 1 from w2)]
      obtain ⟨m, hm2, em⟩ : ∃ m, (0 < m ∧ m < 21) ∧ p2 = nI m := ⟨p2.toInt.toNat, by omega, by rw [i32_eq, nI_int (by omega)]; omega⟩
      subst em
      obtain ⟨I', J', x, u1, u2, u3, u4⟩ := chance_L (p1 := p1) (p2 := nI m) (p3 := p3) (a1 := p1) (a3 := p3) hm2.2 hm2.1 m 0 fu 0 I J (by omega) (by show m < 1000; omega) (Nat.le_refl _) A T hr
      exact ⟨_, _, u1, u2, rfl, hI.ev u3 u4⟩
    · rw [b01_f h3, if_pos (rfl : (0 : Int32) = 0)]
      rcases inr_nle (by omega) h3 with w | ⟨w1, w2⟩
      · rw [if_pos w]; exact ⟨_, _, rfl, rfl, rfl, hI.mono⟩
      · rw [if_neg w1, if_neg (show ¬ p3 ≤ 1 from w2)]; exact ⟨_, _, rfl, rfl, rfl, hI.mono⟩
  · rw [b01_f h, if_pos (rfl : (0 : Int32) = 0)]
    rw [inb_iff, show (1 : Int32).toInt = 1 by decide, show (20 : Int32).toInt = 20 by decide] at h
    by_cases n1 : p2 < 1
    · rw [if_pos n1]; exact ⟨_, _, rfl, rfl, rfl, hI.mono⟩
    · rw [if_neg n1, if_pos (by rw [i32_lt, show (1 : Int32).toInt = 1 by decide] at n1; rw [i32_lt, show (20 : Int32).toInt = 20 by decide]; omega)]
      exact ⟨_, _, rfl, rfl, rfl, hI.mono⟩
