/-! ===== an evening begins; the desk calls ===== -/
theorem beg_L : ∀ (d s cnt : Nat) (J : mm_T), s + d = 8 → d < cnt → ∃ J', f_X9_begins_L47 fu cnt J (nI s) = some J' ∧ (∀ k, k ≠ 39 → k ≠ 40 → J' k = J k) ∧ (∀ g, s ≤ g → g < 8 → J' 39 0 g = 0 ∧ J' 40 0 g = 0) ∧ ∀ g, g < s → J' 39 0 g = J 39 0 g ∧ J' 40 0 g = J 40 0 g
  | 0, s, cnt + 1, J, hs, hc => by
    have e1 : (8 : Int32) ≤ nI s := by rw [i32_le, nI_int (by omega), show (8 : Int32).toInt = 8 by decide]; omega
    refine ⟨J, ?_, fun _ _ _ => rfl, fun g h1 h2 => by omega, fun _ _ => ⟨rfl, rfl⟩⟩
    unfold f_X9_begins_L47; rw [if_pos e1]
  | d + 1, s, cnt + 1, J, hs, hc => by
    have e1 : ¬ (8 : Int32) ≤ nI s := by rw [i32_le, nI_int (by omega), show (8 : Int32).toInt = 8 by decide]; omega
    obtain ⟨J', h1, h2, h3, h4⟩ := beg_L d (s + 1) cnt (mm_up (mm_up J 39 0 s 0) 40 0 s 0) (by omega) (by omega)
    refine ⟨J', ?_, fun k k1 k2 => ?_, fun g g1 g2 => ?_, fun g g1 => ?_⟩
    · unfold f_X9_begins_L47; rw [if_neg e1]
      simp only [pz_gd_t (nI_ix (show s < 8 by omega) (show 8 < 2147483648 by decide)), pz_lt_n, nI_cl (show s < 2147483648 by omega), nI_1]; exact h1
    · rw [h2 k k1 k2, mm_up_ne k2, mm_up_ne k1]
    · by_cases e : g = s
      · subst e
        obtain ⟨x1, x2⟩ := h4 g (by omega)
        rw [x1, x2, mm_up_ne (by decide), mm_get, mm_get, if_pos ⟨rfl, rfl, rfl⟩, if_pos ⟨rfl, rfl, rfl⟩]; exact ⟨rfl, rfl⟩
      · exact h3 g (by omega) g2
    · obtain ⟨x1, x2⟩ := h4 g (by omega)
      rw [x1, x2, mm_up_ne (by decide), mm_get, mm_get, if_neg (by omega), if_neg (by omega), mm_up_ne (by decide)]; exact ⟨rfl, rfl⟩
set_option maxHeartbeats 4000000 in
theorem begin_sim {n r P S i : Nat} {I J : mm_T} (A : EA P S I J) (hr : r < 6) : ∃ I' J', f_X0_begin fu n I i (nI r) = some I' ∧ f_X9_begins fu J = some J' ∧ ES r P S 7 0 (2 ^ P - 1) 0 i I' J' ∧ EF i I I' ∧ RG J J' ∧ J' 9 0 33 = J 9 0 15 ∧ BG 0 0 J' := by
  have hP := A.1.1
  obtain ⟨b1, b2, b3⟩ := bx_fpc P (by omega)
  unfold f_X0_begin f_X9_begins
  rw [pz_gd_t (decide_eq_true (show ¬ nI r = -1 from nI_neg1 (by omega)))]
  simp only [pz_lt_n]
  generalize hI : mm_up (mm_up (mm_up (mm_up (mm_up (mm_up (mm_up (mm_up (mm_row (mm_row (mm_row (mm_up I 0 i 1 (nI r)) 11 i _) 12 i _) 15 i _) 0 i 7 0) 0 i 9 0) 0 i 10 0) 0 i 11 _) 0 i 12 0) 0 i 13 0) 0 i 14 0) 0 i 15 _ = I'
  generalize hJ : mm_up (mm_up (mm_up (mm_up (mm_up (mm_up (mm_up J 9 0 32 0) 9 0 33 _) 9 0 34 0) 9 0 35 _) 9 0 36 0) 9 0 39 0) 9 0 40 0 = J1
  obtain ⟨J', h1, h2, h3, h4⟩ := beg_L 8 0 fu J1 (by omega) (by show 8 < 1000; omega)
  refine ⟨I', J', rfl, h1, ?_, ⟨fun k k1 k2 k3 => ?_, fun k j k1 k2 => ?_⟩, ⟨fun k k1 k2 => ?_, fun j j1 => ?_⟩, by rw [h2 9 (by decide) (by decide), ← hJ]; simp (decide := true) only [mm_get, true_and, if_false, if_true], ⟨0, Nat.zero_le _, by rw [h2 9 (by decide) (by decide), ← hJ]; simp (decide := true) only [mm_get, true_and, if_false, if_true]⟩, fun s _ hs => by unfold tb at hs; rw [Nat.zero_div] at hs; cases hs⟩
  · have eq0 : ∀ j, J' 9 0 j = J1 9 0 j := fun j => by rw [h2 9 (by decide) (by decide)]
    have row : ∀ k j, k ≠ 0 → I' k j = (mm_row (mm_row (mm_row (mm_up I 0 i 1 (nI r)) 11 i (pz_fill ((mm_up I 0 i 1 (nI r)) 11 i) 8 0)) 12 i (pz_fill ((mm_row (mm_up I 0 i 1 (nI r)) 11 i (pz_fill ((mm_up I 0 i 1 (nI r)) 11 i) 8 0)) 12 i) 8 0)) 15 i (pz_fill ((mm_row (mm_row (mm_up I 0 i 1 (nI r)) 11 i (pz_fill ((mm_up I 0 i 1 (nI r)) 11 i) 8 0)) 12 i (pz_fill ((mm_row (mm_up I 0 i 1 (nI r)) 11 i (pz_fill ((mm_up I 0 i 1 (nI r)) 11 i) 8 0)) 12 i) 8 0)) 15 i) 7 (-1))) k j := fun k j hk => by
      rw [← hI]; simp only [mm_up_ne hk]
    have r11 : ∀ g, g < 8 → I' 11 i g = 0 := fun g hg => by
      rw [row 11 i (by decide), mm_row_ne (by decide), mm_row_ne (by decide), mm_row_at]; unfold pz_fill; rw [if_pos hg]
    have r12 : ∀ g, g < 8 → I' 12 i g = 0 := fun g hg => by
      rw [row 12 i (by decide), mm_row_ne (by decide), mm_row_at]; unfold pz_fill; rw [if_pos hg]
    have r15 : ∀ g, g < 7 → I' 15 i g = -1 := fun g hg => by
      rw [row 15 i (by decide), mm_row_at]; unfold pz_fill; rw [if_pos hg]
    unfold ES
    simp only [eq0]
    have v : ∀ j, I' 0 i j = if j = 15 then nI (2 ^ P - 1) else if j = 14 then 0 else if j = 13 then 0 else if j = 12 then 0 else if j = 11 then I 1 0 4 else if j = 10 then 0 else if j = 9 then 0 else if j = 7 then 0 else if j = 1 then nI r else I 0 i j := fun j => by
      rw [← hI]
      simp (decide := true) only [mm_get, mr_get, true_and, false_and, if_false, ← bx_full P (by omega), A.1.2.2.1]
    have v9 : ∀ j, J1 9 0 j = if j = 40 then 0 else if j = 39 then 0 else if j = 36 then 0 else if j = 35 then nI (2 ^ P - 1) else if j = 34 then 0 else if j = 33 then J 9 0 15 else if j = 32 then 0 else J 9 0 j := fun j => by
      rw [← hJ]
      simp (decide := true) only [mm_get, true_and, false_and, if_false, ← bx_full P (by omega), A.1.2.2.2.1]
    refine ⟨⟨by rw [v 1]; rfl, by rw [v 10, v9 32]; rfl, by rw [v 11, v9 33]; exact A.2.1.1, by rw [v 12, v9 34]; rfl, by rw [v 14, v9 36]; rfl⟩, ⟨by rw [v 15]; rfl, by rw [v9 35]; rfl, b2, by rw [v 13, b1, Nat.sub_self]; rfl⟩, ⟨by rw [v 9]; show (0 : Int32) = nI (0 ||| bu 7); decide, by rw [v9 39]; rfl, by rw [v 7]; show (0 : Int32) = nI (pc 0); decide, Nat.two_pow_pos S, by omega⟩, ⟨by rw [v9 40]; rfl, by omega, fun s hs _ => ?_⟩, fun g hg => ?_⟩
    · rw [r15 s hs, if_neg (by unfold tb; rw [Nat.zero_div]; decide)]
    · obtain ⟨x1, x2⟩ := h3 g (by omega) hg
      rw [r11 g hg, r12 g hg, x1, x2]; exact ⟨rfl, rfl⟩
  · rw [← hI]
    simp only [mm_up_ne k1, mm_row_ne (show k ≠ 11 by omega), mm_row_ne (show k ≠ 12 by omega), mm_row_ne (show k ≠ 15 by omega)]
  · have e : ∀ (M : mm_T) (k' j' : Nat) (v : Int32), mm_up M k' i j' v k j = M k j := fun M k' j' v => by
      by_cases hk : k = k'
      · subst hk; exact mm_up_ni k1
      · rw [mm_up_ne hk]
    have e2 : ∀ (M : mm_T) (k' : Nat) (v : Nat → Int32), mm_row M k' i v k j = M k j := fun M k' v => by
      by_cases hk : k = k'
      · subst hk; exact mm_row_ni k1
      · rw [mm_row_ne hk]
    rw [← hI]; simp only [e, e2]
  · rw [h2 k (by omega) (by omega), ← hJ]; simp only [mm_up_ne k1]
  · rw [h2 9 (by decide) (by decide), ← hJ]
    simp only [mm_get, true_and]
    rw [if_neg (by omega), if_neg (by omega), if_neg (by omega), if_neg (by omega), if_neg (by omega), if_neg (by omega), if_neg (by omega)]
def oa (a : Nat) : Int32 := if a = 7 then -1 else nI a
theorem leaveout_c {n r P S a th ss i : Nat} {I J : mm_T} (A : EA P S I J) (ha : a < S ∨ a = 7) (Z : ES r P S 7 0 th ss i I J) : ∃ I', f_X0_leaveOut fu n I i (oa a) = some I' ∧ ES r P S a 0 th ss i I' J ∧ EF i I I' := by
  have hS := A.1.2.1
  unfold f_X0_leaveOut
  rw [x1_hasSlip A.1.2.2.2.2.1 (by omega), pz_bd_s]
  by_cases h7 : a = 7
  · subst h7
    rw [if_pos (b01_f (by rw [inr_iff]; unfold oa; rw [if_pos rfl, show (-1 : Int32).toInt = -1 by decide]; omega))]
    exact ⟨I, rfl, Z, EF.refl⟩
  · have haS : a < S := by omega
    have e : oa a = nI a := if_neg h7
    rw [e, if_neg (by rw [b01_t (nI_inr (by omega) haS)]; decide)]
    simp only [pz_lt_n]
    obtain ⟨⟨z1, z2, z3, z4, z5⟩, ⟨z6, z7, z8, z9⟩, ⟨y1, y2, y3, y4, y5⟩, x1, x2⟩ := Z
    generalize hI : mm_up I 0 i 9 _ = I'
    have f : ∀ j, j ≠ 9 → I' 0 i j = I 0 i j := fun j hj => by rw [← hI, mm_get, if_neg (fun q => hj q.2.2)]
    have f2 : ∀ k, k ≠ 0 → I' k = I k := fun k hk => by rw [← hI, mm_up_ne hk]
    have f9 : I' 0 i 9 = nI (0 ||| bu a) := by
      rw [← hI, mm_get, if_pos ⟨rfl, rfl, rfl⟩, y1]
      exact (bx_bu a (by omega)).2
    refine ⟨I', rfl, ?_, fun k k1 _ _ => f2 k k1, fun k j k1 k2 => ?_⟩
    · unfold ES
      rw [f 1 (by decide), f 10 (by decide), f 11 (by decide), f 12 (by decide), f 14 (by decide), f 15 (by decide), f 13 (by decide), f 7 (by decide), f9, f2 15 (by decide), f2 11 (by decide), f2 12 (by decide)]
      exact ⟨⟨z1, z2, z3, z4, z5⟩, ⟨z6, z7, z8, z9⟩, ⟨rfl, y2, y3, y4, by omega⟩, x1, x2⟩
    · rw [← hI]
      by_cases hk : k = 0
      · subst hk; exact mm_up_ni k1
      · rw [mm_up_ne hk]
theorem noslip_c {n P S i : Nat} {I J : mm_T} (A : EA P S I J) : f_X0_callSlip fu n I i (-1) = some I := by
  have hS := A.1.2.1
  unfold f_X0_callSlip
  rw [x1_hasSlip A.1.2.2.2.2.1 (by omega), pz_bd_s, if_pos (b01_f (by rw [inr_iff, show (-1 : Int32).toInt = -1 by decide]; omega))]
/-- when the desk has nobody left, it has nobody left -/
theorem idle_L {n r P S a cl th ss i : Nat} {sy : Nat → (Nat → Int32) → Int32} {J J2 : mm_T} (hn : f_X9_deskCalls fu J (nI (bu a)) = some (J2, -1)) : ∀ (m k cnt : Nat) (I : mm_T), k + m = 7 → m < cnt → EA P S I J → ET r n sy I J → ES r P S a cl th ss i I J → ∃ I', f_X0_callByDesk_L2 fu n i cnt I (nI k) = some I' ∧ EQ i I I'
  | 0, k, cnt + 1, I, hk, hc, A, T, Z => by
    refine ⟨I, ?_, EQ.refl⟩
    unfold f_X0_callByDesk_L2
    rw [if_pos (by rw [i32_le, nI_int (by omega), show (7 : Int32).toInt = 7 by decide]; omega)]
  | m + 1, k, cnt + 1, I, hk, hc, A, T, Z => by
    obtain ⟨I1, J1, c, h1, h2, h3, h4, h5⟩ := choose_sim A T Z
    rw [hn] at h2
    have ec : oc c = -1 := by injection h2 with h2; exact (congrArg Prod.snd h2).symm
    obtain ⟨I', g1, g2⟩ := idle_L hn m (k + 1) cnt I1 (by omega) (by omega) (A.ev h3.toF RG.refl) (T.ev h3.toF RG.refl) (Z.ask h3 RS.refl)
    refine ⟨I', ?_, h3.trans g2⟩
    unfold f_X0_callByDesk_L2
    rw [if_neg (by rw [i32_le, nI_int (by omega), show (7 : Int32).toInt = 7 by decide]; omega), h1, pz_bd_s]
    dsimp only
    rw [ec, noslip_c (A.ev h3.toF RG.refl), pz_bd_s, pz_lt_n, nI_1]
    exact g1
def rd (f : Nat → Int32) : Nat → Int32
  | 0 => 0
  | k + 1 => rd f k * 10 + f k + 1
theorem rd_cong {f g : Nat → Int32} : ∀ {k : Nat}, (∀ j, j < k → f j = g j) → rd f k = rd g k
  | 0, _ => rfl
  | k + 1, h => by unfold rd; rw [rd_cong (fun j hj => h j (by omega)), h k (by omega)]
/-- as RG, the desk's row aside -/
def RD (J J' : mm_T) : Prop := (∀ k, k ≠ 9 → (k < 39 ∨ 41 < k) → J' k = J k) ∧ ∀ j, (j < 17 ∨ 40 < j) → j ≠ 49 → J' 9 0 j = J 9 0 j
theorem RG.toD {A B : mm_T} (h : RG A B) : RD A B := ⟨h.1, fun j a _ => h.2 j a⟩
theorem RD.trans {A B C : mm_T} (h : RD A B) (g : RD B C) : RD A C := ⟨fun k a b => (g.1 k a b).trans (h.1 k a b), fun j a b => (g.2 j a b).trans (h.2 j a b)⟩
theorem EA.evd {P S i : Nat} {I J I' J' : mm_T} (h : EA P S I J) (hi : EF i I I') (hj : RD J J') : EA P S I' J' := h.to (hi.1 1 (by decide) (by decide) (by decide)) (hi.1 2 (by decide) (by decide) (by decide)) (hi.1 6 (by decide) (by decide) (by decide)) (fun j q => hj.2 j (by omega) (by omega)) (fun k q q2 => hj.1 k (by omega) (by omega))
theorem ET.evd {r n i : Nat} {sy : Nat → (Nat → Int32) → Int32} {I J I' J' : mm_T} (h : ET r n sy I J) (hi : EF i I I') (hj : RD J J') : ET r n sy I' J' := h.to (hi.1 7 (by decide) (by decide) (by decide)) (hi.1 28 (by decide) (by decide) (by decide)) (fun j q => hj.2 j (by omega) (by omega)) (hj.1 30 (by decide) (by decide)) (hj.1 31 (by decide) (by decide))
theorem ES.up49 {r P S a cl th ss i : Nat} {I J : mm_T} (h : ES r P S a cl th ss i I J) (v : Int32) : ES r P S a cl th ss i I (mm_up J 9 0 49 v) := by
  have m0 : ∀ j, j ≠ 49 → mm_up J 9 0 49 v 9 0 j = J 9 0 j := fun j hj => by rw [mm_get, if_neg (fun q => hj q.2.2)]
  have mk : ∀ k, k ≠ 9 → mm_up J 9 0 49 v k = J k := fun k hk => mm_up_ne hk
  unfold ES
  rw [m0 32 (by decide), m0 33 (by decide), m0 34 (by decide), m0 35 (by decide), m0 36 (by decide), m0 39 (by decide), m0 40 (by decide), mk 41 (by decide), mk 39 (by decide), mk 40 (by decide)]
  exact h
theorem pc_new {n P S a cl t : Nat} (hS : S ≤ 7) (ha : a < 8) (hcl : cl < 2 ^ S) (ht : t < S) (hb : tb (cl ||| bu a) t = false) : pc (sb cl t) = pc cl + 1 ∧ sb cl t < 2 ^ S ∧ pc (sb cl t) ≤ 7 := by
  have e128 : 2 ^ S ≤ 2 ^ 7 := Nat.pow_le_pow_right (by omega) hS
  have hbc : tb cl t = false := by
    rw [bx_osb cl (by omega) a ha t (by omega)] at hb
    cases h : tb cl t with
    | false => rfl
    | true => rw [h] at hb; cases hb
  have h1 := (bx_pc cl (by omega) t (by omega)).1
  have h2 := bx_sb cl (by omega) t (by omega) S (by omega) ht hcl
  rw [hbc] at h1
  exact ⟨h1, h2, bx_pcP _ (by omega) 7 (by omega) (by omega)⟩
theorem BG.ask {cl ss : Nat} {J J' : mm_T} (h : BG cl ss J) (hj : RS J J') : BG cl ss J' := by
  unfold BG; rw [hj.2 32 (by omega), hj.1 41 (by decide)]; exact h
theorem BG.up49 {cl ss : Nat} {J : mm_T} (h : BG cl ss J) (v : Int32) : BG cl ss (mm_up J 9 0 49 v) := by
  unfold BG; rw [mm_get, if_neg (by omega), mm_up_ne (by decide)]; exact h
set_option maxHeartbeats 4000000 in
theorem desk_L {n r P S a i : Nat} {sy : Nat → (Nat → Int32) → Int32} : ∀ (m k cnt1 cnt2 cl th ss : Nat) (I J : mm_T), k + m = 7 → m < cnt1 → m < cnt2 → k ≤ pc cl → EA P S I J → ET r n sy I J → ES r P S a cl th ss i I J → ∃ I' J' cl' th' ss', f_X0_callByDesk_L2 fu n i cnt1 I (nI k) = some I' ∧ (pz_bd (f_X9_deskCalls fu J (nI (bu a))) fun q => f_X9_goesOn_L11 fu (nI (bu a)) cnt2 q.1 (nI (bu a)) q.2) = some J' ∧ ES r P S a cl' th' ss' i I' J' ∧ EF i I I' ∧ RD J J' ∧ (J 9 0 49 = rd (I 14 i) (pc cl) → J' 9 0 49 = rd (I' 14 i) (pc cl')) ∧ pc cl ≤ pc cl' ∧ (∀ j, j < pc cl → I' 14 i j = I 14 i j) ∧ (BG cl ss J → BG cl' ss' J')
  | 0, k, cnt1 + 1, cnt2 + 1, cl, th, ss, I, J, hk, hc1, hc2, hpc, A, T, Z => by
    obtain ⟨I1, J1, c, h1, h2, h3, h4, h5⟩ := choose_sim A T Z
    have ha := Z.2.2.1.2.2.2.2
    have l2 := (Z.lt A).2.1
    have hS := A.1.2.1
    have ec : c = none := by
      cases c with
      | none => rfl
      | some t =>
        obtain ⟨x1, x2⟩ := h5 t rfl
        rw [bx_osb cl l2 a ha t (by omega), bx_fullset cl l2 (by omega) t (by omega)] at x2
        cases x2
    subst ec
    refine ⟨I, J1, cl, th, ss, ?_, ?_, Z.ask EQ.refl h4, EF.refl, h4.toG.toD, fun e => by rw [h4.2 49 (by omega)]; exact e, Nat.le_refl _, fun _ _ => rfl, fun hB => hB.ask h4⟩
    · unfold f_X0_callByDesk_L2
      rw [if_pos (by rw [i32_le, nI_int (by omega), show (7 : Int32).toInt = 7 by decide]; omega)]
    · rw [h2, pz_bd_s]; dsimp only
      unfold f_X9_goesOn_L11
      rw [if_pos (show oc none = (-1 : Int32) from rfl)]
  | m + 1, k, cnt1 + 1, cnt2 + 1, cl, th, ss, I, J, hk, hc1, hc2, hpc, A, T, Z => by
    obtain ⟨I1, J1, c, h1, h2, h3, h4, h5⟩ := choose_sim A T Z
    have A1 := A.ev h3.toF h4.toG
    have T1 := T.ev h3.toF h4.toG
    have Z1 := Z.ask h3 h4
    have ha := Z.2.2.1.2.2.2.2
    have e7 : ¬ (7 : Int32) ≤ nI k := by rw [i32_le, nI_int (by omega), show (7 : Int32).toInt = 7 by decide]; omega
    cases c with
    | none =>
      have A2 : EA P S I1 J := A.ev h3.toF RG.refl
      obtain ⟨I', g1, g2⟩ := idle_L h2 m (k + 1) cnt1 I1 (by omega) (by omega) A2 (T.ev h3.toF RG.refl) (Z.ask h3 RS.refl)
      have g3 := h3.trans g2
      refine ⟨I', J1, cl, th, ss, ?_, ?_, Z.ask g3 h4, g3.toF, h4.toG.toD, fun e => by rw [h4.2 49 (by omega), g3.1 14 (by decide) (by decide)]; exact e, Nat.le_refl _, fun j _ => by rw [g3.1 14 (by decide) (by decide)], fun hB => hB.ask h4⟩
      · unfold f_X0_callByDesk_L2
        rw [if_neg e7, h1, pz_bd_s]
        dsimp only
        rw [show oc none = (-1 : Int32) from rfl, noslip_c A2, pz_bd_s, pz_lt_n, nI_1]
        exact g1
      · rw [h2, pz_bd_s]; dsimp only
        unfold f_X9_goesOn_L11
        rw [if_pos (show oc none = (-1 : Int32) from rfl)]
    | some t =>
      obtain ⟨x1, x2⟩ := h5 t rfl
      obtain ⟨p1, p2, p3⟩ := pc_new (n := n) (P := P) A.1.2.1 ha Z.2.2.1.2.2.2.1 x1 x2
      obtain ⟨I2, J2, th2, ss2, k1, k2, k3, k4, k5, k6, _, k7⟩ := call_sim A1 T1 Z1 x1 x2
      have F2 : EF i I I2 := h3.toF.trans k4
      have G2 : RG J J2 := h4.toG.trans k5
      generalize hJ3 : mm_up J2 9 0 49 ((((10 : Int32) * (J2 9 0 49)) + nI t) + (1 : Int32)) = J3
      have G3 : RD J J3 := G2.toD.trans ⟨fun k q _ => by rw [← hJ3, mm_up_ne q], fun j _ q => by rw [← hJ3, mm_get, if_neg (fun w => q w.2.2)]⟩
      obtain ⟨I', J', cl', th', ss', o1, o2, o3, o4, o5, o6, o7, o8, o9⟩ := desk_L m (k + 1) cnt1 cnt2 (sb cl t) th2 ss2 I2 J3 (by omega) (by omega) (by omega) (by omega) (A.evd F2 G3) (T.evd F2 G3) (by rw [← hJ3]; exact k3.up49 _)
      refine ⟨I', J', cl', th', ss', ?_, ?_, o3, F2.trans o4, G3.trans o5, fun e => o6 ?_, by omega, fun j hj => ?_, fun hB => o9 (by rw [← hJ3]; exact (k7 (hB.ask h4)).up49 _)⟩
      · unfold f_X0_callByDesk_L2
        rw [if_neg e7, h1, pz_bd_s]
        dsimp only
        rw [show oc (some t) = nI t from rfl, k1, pz_bd_s, pz_lt_n, nI_1]
        exact o1
      · rw [h2, pz_bd_s]; dsimp only
        unfold f_X9_goesOn_L11
        rw [if_neg (show ¬ oc (some t) = (-1 : Int32) from nI_neg1 (by have := A.1.2.1; omega)), show oc (some t) = nI t from rfl, k2, pz_bd_s, pz_lt_n, hJ3]
        exact o2
      · rw [← hJ3, mm_get, if_pos ⟨rfl, rfl, rfl⟩, G2.2 49 (by omega), e, p1, k6, h3.1 14 (by decide) (by decide)]
        rw [show ∀ f k, rd f (k + 1) = rd f k * 10 + f k + 1 from fun _ _ => rfl, upd_at, rd_cong (g := I 14 i) (fun j hj => upd_ne (by omega)), Int32.mul_comm 10]
      · rw [o8 j (by omega), k6, upd_ne (by omega), h3.1 14 (by decide) (by decide)]
/-- the desk runs an evening -/
theorem desk_sim {n r P S a : Nat} {sy : Nat → (Nat → Int32) → Int32} {I J : mm_T} (A : EA P S I J) (T : ET r n sy I J) (ha : a < S ∨ a = 7) : ∃ I' J' cl th ss, f_X8_runDesk fu n I (nI r) (oa a) = some I' ∧ f_X9_desks fu J (nI (bu a)) = some J' ∧ ES r P S a cl th ss 0 I' J' ∧ EF 0 I I' ∧ RD J J' ∧ J' 9 0 49 = rd (I' 14 0) (pc cl) ∧ BG cl ss J' := by
  obtain ⟨I1, J1, h1, h2, h3, h4, h5, _, h6⟩ := begin_sim (n := n) (r := r) (i := 0) A T.2.1
  have A1 := A.ev h4 h5
  obtain ⟨I2, g1, g2, g3⟩ := leaveout_c (n := n) A1 ha h3
  have F2 := h4.trans g3
  have G2 : RD J (mm_up J1 9 0 49 0) := h5.toD.trans ⟨fun k q _ => by rw [mm_up_ne q], fun j _ q => by rw [mm_get, if_neg (fun w => q w.2.2)]⟩
  obtain ⟨I', J', cl', th', ss', o1, o2, o3, o4, o5, o6, o7, o8, o9⟩ := desk_L (sy := sy) 7 0 fu fu 0 (2 ^ P - 1) 0 I2 (mm_up J1 9 0 49 0) (by omega) (by show 7 < 1000; omega) (by show 7 < 1000; omega) (Nat.zero_le _) (A.evd F2 G2) (T.evd F2 G2) (g2.up49 0)
  refine ⟨I', J', cl', th', ss', ?_, ?_, o3, F2.trans o4, G2.trans o5, o6 ?_, o9 (h6.up49 0)⟩
  · unfold f_X8_runDesk f_X0_callByDesk
    rw [h1, pz_bd_s, g1, pz_bd_s, show f_X0_callByDesk_L2 fu n 0 fu I2 0 = some I' from o1]; rfl
  · unfold f_X9_desks f_X9_goesOn
    rw [h2, pz_bd_s, pz_lt_n]
    simp only [pz_lt_n]
    rw [o2]; rfl
  · rw [mm_get, if_pos ⟨rfl, rfl, rfl⟩]; rfl
