def EB (I I' : mm_T) : Prop := ∀ k, k ≠ 0 → (k < 10 ∨ 15 < k) → (k < 22 ∨ 25 < k) → k ≠ 29 → I' k = I k
set_option maxHeartbeats 4000000 in
theorem lk_run {n r P S q : Nat} {sy : Nat → (Nat → Int32) → Int32} {I J : mm_T} (hq : q < 2) (A : EA P S I J) (T : ET r n sy I J) : ∃ I' J', lk_body fu n I (nI r) = some I' ∧ (pz_bd (f_X9_begins fu J) fun q_5 => f_M9r fu 20 0 q_5 (0 : Int32) (0 : Int32) (nI q)) = some J' ∧ BQ q I' J' ∧ EB I I' ∧ RW J J' := by
  obtain ⟨I1, J1, b1, b2, Z, b4, b5, _⟩ := begin_sim (n := n) (r := r) (i := 1) A T.2.1
  have A1 := A.ev b4 b5
  have T1 := T.ev b4 b5
  have hl := left_sim A1 Z
  generalize hI3 : NT (NT I1 1 0 0) 1 1 0 = I3
  generalize hJ3 : mm_up (mm_up (mm_up (mm_up J1 9 0 45 0) 9 0 46 (J1 9 0 34)) 9 0 47 (nI (P - pc (2 ^ P - 1)))) 9 0 48 (J1 9 0 36) = J3
  have v : ∀ j, J3 9 0 j = if j = 48 then J1 9 0 36 else if j = 47 then nI (P - pc (2 ^ P - 1)) else if j = 46 then J1 9 0 34 else if j = 45 then 0 else J1 9 0 j := fun j => by
    rw [← hJ3]; simp only [mm_get, true_and]
  have vk : ∀ k, k ≠ 9 → J3 k = J1 k := fun k hk => by rw [← hJ3]; simp only [mm_up_ne hk]
  have vj : ∀ j, (j < 45 ∨ 48 < j) → J3 9 0 j = J1 9 0 j := fun j hj => by rw [v, if_neg (by omega), if_neg (by omega), if_neg (by omega), if_neg (by omega)]
  have i3 : ∀ k, (k < 22 ∨ 25 < k) → I3 k = I1 k := fun k hk => by rw [← hI3]; exact (NT_ne hk).trans (NT_ne hk)
  have w0 := NT_at (I := I1) (i := 1) (q := 0) (x := 0)
  have w1 := NT_at (I := NT I1 1 0 0) (i := 1) (q := 1) (x := 0)
  have w2 := NT_nq (I := NT I1 1 0 0) (i := 1) (q := 1) (q' := 0) (x := 0) (by omega)
  rw [NT_ne (k := 0) (by omega)] at w1
  have hrow : I3 22 0 q = I1 0 1 12 ∧ I3 23 0 q = I1 0 1 13 ∧ I3 24 0 q = I1 0 1 14 ∧ I3 25 0 q = 0 := by
    rw [← hI3]
    rcases (by omega : q = 0 ∨ q = 1) with e | e <;> subst e
    · exact ⟨w2.1.trans w0.1, w2.2.1.trans w0.2.1, w2.2.2.1.trans w0.2.2.1, w2.2.2.2.trans w0.2.2.2⟩
    · exact w1
  have B : BQ q I3 J3 := by
    obtain ⟨m1, m2, m3, m4⟩ := hrow
    refine ⟨?_, ?_, ?_, ?_⟩
    · rw [m1, v, if_neg (by omega), if_neg (by omega), if_pos rfl]; exact Z.1.2.2.2.1
    · rw [m2, v, if_neg (by omega), if_pos rfl]; exact Z.2.1.2.2.2
    · rw [m3, v, if_pos rfl]; exact Z.1.2.2.2.2
    · rw [m4, v, if_neg (by omega), if_neg (by omega), if_neg (by omega), if_pos rfl]
  have BI3 : BI 0 I1 I3 := ⟨fun k _ _ h _ => i3 k h, fun k j _ h _ => by rw [i3 k h]⟩
  have BJ3 : BJ 0 J1 J3 := ⟨fun k h _ => vk k h, fun j h => vj j (by omega), AB.of (vk 42 (by omega)) (vk 43 (by omega)) (vk 44 (by omega))⟩
  have R3 : RJ J1 J3 := ⟨⟨vj 32 (by omega), vj 33 (by omega), vj 34 (by omega), vj 35 (by omega), vj 36 (by omega), vj 39 (by omega), vj 40 (by omega)⟩, fun g _ => ⟨by rw [vk 39 (by omega)], by rw [vk 40 (by omega)]⟩⟩
  have Z3 : ES r P S 7 0 (2 ^ P - 1) 0 (0 + 1) I3 J3 := Z.keep (by omega) (fun _ _ => by rw [i3 0 (by omega)]) (fun _ _ => by rw [i3 11 (by omega)]) (fun _ _ => by rw [i3 12 (by omega)]) R3
  obtain ⟨I', J', u1, u2, u3, u4, u5, u6⟩ := go_best hq 7 0 20 19 0 (2 ^ P - 1) 0 I3 J3 0 (by omega) (by omega) (by omega) rfl (A1.evb BI3 BJ3) (T1.evb BI3 BJ3) Z3 B
  refine ⟨I', J', ?_, ?_, u3, fun k k0 k1 k2 k3 => ?_, ?_⟩
  · unfold lk_body
    rw [b1, pz_bd_s, show f_X4_note fu n I1 0 1 0 = some (NT I1 1 0 0) from note_eq (q := 0) (by omega), pz_bd_s, show f_X4_note fu n (NT I1 1 0 0) 1 1 0 = some (NT (NT I1 1 0 0) 1 1 0) from note_eq (q := 1) (by omega), pz_bd_s, hI3]
    exact u1
  · rw [b2, pz_bd_s, show f_M9r fu 20 0 J1 0 0 (nI q) = f_X9_rows fu (f_M9r fu 19) J1 0 0 (nI q) from rfl]
    unfold f_X9_rows f_X9_rows_L12
    simp only [pz_lt_n]
    rw [if_pos trivial]
    have hl2 : f_X9_leftMany fu (mm_up (mm_up J1 9 0 45 0) 9 0 46 (mm_up J1 9 0 45 0 9 0 34)) = some (nI (P - pc (2 ^ P - 1))) := by
      rw [← hl]
      unfold f_X9_leftMany
      rw [mm_get, if_neg (by omega), mm_get, if_neg (by omega), mm_get, if_neg (by omega), mm_get, if_neg (by omega)]
    rw [hl2, pz_bd_s, mm_get 9 0 34, if_neg (by omega), mm_get 9 0 36, if_neg (by omega), mm_get 9 0 36, if_neg (by omega), mm_get 9 0 36, if_neg (by omega), hJ3]
    exact u2
  · exact (u4.1 k k0 k1 k2 k3).trans ((i3 k k2).trans (b4.1 k k0 k1 k3))
  · exact b5.toW.trans (RW.trans ⟨fun k h _ => vk k h, fun j h => vj j (by omega)⟩ ⟨fun k h h2 => u5.1 k h h2, fun j h => u5.2.1 j (by omega)⟩)
theorem RC.evb {c n : Nat} {I J I' J' : mm_T} (h : RC c n I J) (e : ∀ k, k ≠ 0 → k ≠ 4 → (k < 10 ∨ 15 < k) → (k < 22 ∨ 25 < k) → k ≠ 29 → I' k = I k) (hj : RW J J') (hc : ∀ r, r < 6 → I 1 0 6 = nI r → CA c r I → CA c r I') : RC c n I' J' := by
  obtain ⟨P, S, r, tc, B, h1, H, K, T, SS, X, C⟩ := h
  have hr : I 1 0 6 = nI r := H.2.1.2.2.1
  have htc := X.2.2.1
  refine ⟨P, S, r, tc, B, h1, ?_, ?_, ?_, ?_, ?_, hc r (by omega) hr C⟩
  · unfold HI at H ⊢
    rw [e 1 (by decide) (by decide) (by decide) (by decide) (by decide), e 2 (by decide) (by decide) (by decide) (by decide) (by decide), e 6 (by decide) (by decide) (by decide) (by decide) (by decide), hj.2 9 (by omega), hj.2 14 (by omega), hj.2 15 (by omega), hj.2 16 (by omega), hj.2 4 (by omega), hj.1 33 (by decide) (by decide), hj.1 34 (by decide) (by decide), hj.1 35 (by decide) (by decide), hj.1 36 (by decide) (by decide), hj.1 37 (by decide) (by decide), hj.1 38 (by decide) (by decide)]
    exact H
  · exact K.to (Nat.le_refl _) (Nat.le_refl _) (by rw [e 8 (by decide) (by decide) (by decide) (by decide) (by decide)]) (fun j _ _ => by rw [e 1 (by decide) (by decide) (by decide) (by decide) (by decide)]) (fun p j => by rw [e 2 (by decide) (by decide) (by decide) (by decide) (by decide)]) (fun s j => by rw [e 6 (by decide) (by decide) (by decide) (by decide) (by decide)]) (hj.2 52 (by omega)) (hj.2 53 (by omega)) (hj.2 54 (by omega)) (hj.2 55 (by omega)) (hj.2 56 (by omega)) (by rw [hj.1 45 (by decide) (by decide)]) (by rw [hj.1 46 (by decide) (by decide)]) (fun s _ => by rw [hj.1 35 (by decide) (by decide)])
  · exact T.to (by rw [e 3 (by decide) (by decide) (by decide) (by decide) (by decide)]) (e 18 (by decide) (by decide) (by decide) (by decide) (by decide)) (hj.2 6 (by omega)) (hj.1 32 (by decide) (by decide))
  · exact SS.to (e 26 (by decide) (by decide) (by decide) (by decide) (by decide)) (e 5 (by decide) (by decide) (by decide) (by decide) (by decide)) (e 27 (by decide) (by decide) (by decide) (by decide) (by decide)) (hj.1 47 (by decide) (by decide)) (hj.1 48 (by decide) (by decide)) (hj.1 49 (by decide) (by decide)) (hj.1 50 (by decide) (by decide))
  · exact X.to (by rw [e 8 (by decide) (by decide) (by decide) (by decide) (by decide)]) (hj.2 3 (by omega)) (e 20 (by decide) (by decide) (by decide) (by decide) (by decide)) (e 7 (by decide) (by decide) (by decide) (by decide) (by decide)) (e 28 (by decide) (by decide) (by decide) (by decide) (by decide)) (hj.1 30 (by decide) (by decide)) (hj.1 31 (by decide) (by decide))
theorem RC.op2 {c n : Nat} {I J : mm_T} (h : RC c n I J) : ∃ P S r sy, EA P S I J ∧ ET r n sy I J ∧ f_X8_rule fu n I = some (nI r) ∧ I 1 0 6 = nI r ∧ CA c r I := by
  have h0 := h
  obtain ⟨P, S, r, sy, A, T, hr, _⟩ := h0.op
  obtain ⟨P', S', r', tc, B, h1, H, K, T', SS, X, C⟩ := h
  have hr' : I 1 0 6 = nI r' := H.2.1.2.2.1
  have h4' : J 9 0 4 = nI r' := H.2.1.2.2.2.1
  have htc := X.2.2.1
  have e : r' = r := (nI_eqM (by omega) (by have := T.2.1; omega)).mp (h4'.symm.trans T.2.2.1)
  subst e
  exact ⟨P, S, r', sy, A, T, hr, hr', C⟩
theorem EA.ptw {P S : Nat} {I Ic J : mm_T} (h : EA P S I J) (h1 : ∀ j, 2 ≤ j → j < 7 → Ic 1 0 j = I 1 0 j) (h2 : ∀ p, p < 8 → Ic 2 p = I 2 p) (h6 : ∀ s, s < 7 → Ic 6 s = I 6 s) : EA P S Ic J := by
  obtain ⟨⟨a1, a2, a3, a4, a5, a6⟩, ⟨b1, b2⟩, hP, hS⟩ := h
  refine ⟨⟨a1, a2, (h1 2 (by omega) (by omega)).trans a3, a4, (h1 3 (by omega) (by omega)).trans a5, a6⟩, ⟨(h1 4 (by omega) (by omega)).trans b1, (h1 5 (by omega) (by omega)).trans b2⟩, fun p hp => ?_, fun s hs => ?_⟩
  · rw [h2 p (by omega)]; exact hP p hp
  · rw [h6 s (by omega)]; exact hS s hs
theorem ans_eq {n q t : Nat} {I : mm_T} (hq : q < 2) (ht : t < 4) : f_X4_answer fu n I (nI q) (nI t) = some (if t = 0 then I 22 0 q else if t = 1 then I 23 0 q else if t = 2 then I 24 0 q else I 25 0 q) := by
  unfold f_X4_answer
  simp only [pz_lt_n, pz_gd_t (nI_ix hq (show 2 < 2147483648 by decide)), nI_cl (show q < 2147483648 by omega)]
  rcases (by omega : t = 0 ∨ t = 1 ∨ t = 2 ∨ t = 3) with e | e | e | e <;> subst e
  · rw [if_pos (show nI 0 = (0 : Int32) from rfl), if_pos rfl]
  · rw [if_neg (show ¬ nI 1 = (0 : Int32) by decide), if_pos (show nI 1 = (1 : Int32) from rfl), if_neg (by omega), if_pos rfl]
  · rw [if_neg (show ¬ nI 2 = (0 : Int32) by decide), if_neg (show ¬ nI 2 = (1 : Int32) by decide), if_pos (show nI 2 = (2 : Int32) from rfl), if_neg (by omega), if_neg (by omega), if_pos rfl]
  · rw [if_neg (show ¬ nI 3 = (0 : Int32) by decide), if_neg (show ¬ nI 3 = (1 : Int32) by decide), if_neg (show ¬ nI 3 = (2 : Int32) by decide), if_neg (by omega), if_neg (by omega), if_neg (by omega)]
theorem ans_r {t : Nat} {J : mm_T} (ht : t < 4) : (if nI t = 0 then (some (J, (J 9 0 46))) else (if nI t = (1 : Int32) then (some (J, (J 9 0 47))) else (if nI t = (2 : Int32) then (some (J, (J 9 0 48))) else (some (J, (J 9 0 45)))))) = some (J, if t = 0 then J 9 0 46 else if t = 1 then J 9 0 47 else if t = 2 then J 9 0 48 else J 9 0 45) := by
  rcases (by omega : t = 0 ∨ t = 1 ∨ t = 2 ∨ t = 3) with e | e | e | e <;> subst e
  · rw [if_pos (show nI 0 = (0 : Int32) from rfl), if_pos rfl]
  · rw [if_neg (show ¬ nI 1 = (0 : Int32) by decide), if_pos (show nI 1 = (1 : Int32) from rfl), if_neg (by omega), if_pos rfl]
  · rw [if_neg (show ¬ nI 2 = (0 : Int32) by decide), if_neg (show ¬ nI 2 = (1 : Int32) by decide), if_pos (show nI 2 = (2 : Int32) from rfl), if_neg (by omega), if_neg (by omega), if_pos rfl]
  · rw [if_neg (show ¬ nI 3 = (0 : Int32) by decide), if_neg (show ¬ nI 3 = (1 : Int32) by decide), if_neg (show ¬ nI 3 = (2 : Int32) by decide), if_neg (by omega), if_neg (by omega), if_neg (by omega)]
set_option maxHeartbeats 4000000 in
theorem sim_best : sm_best Inv := by
  intro k n I J p1 p2 hk hI
  obtain ⟨c, hc, R⟩ := hI
  have hI : Inv k n I J := ⟨c, hc, R⟩
  obtain ⟨P, S, r, sy, A, T, hr, hr6, C⟩ := R.op2
  unfold f_X8_best f_X9_best
  rw [in_nat (m := 1) (by decide) (by omega), in_nat (m := 3) (by decide) (by omega), pz_bd_s, pz_bd_s]
  by_cases h1 : inr (1 + 1) p1 = true
  · obtain ⟨w1, w2, w3⟩ := inr_le (by omega) h1
    have g2 : ¬ (2 : Int32) ≤ p1 := by
      rw [i32_lt, nI_int (by omega)] at w3
      rw [i32_le, show (2 : Int32).toInt = 2 by decide]; omega
    rw [h1, if_neg (show ¬ b01 true = 0 by decide), if_neg w1, if_neg g2]
    by_cases h2 : inr (3 + 1) p2 = true
    · obtain ⟨y1, y2, y3⟩ := inr_le (by omega) h2
      rw [h2, if_neg (show ¬ b01 true = 0 by decide), if_neg y1, if_pos (show p2 < 4 from y3), hr, pz_bd_s]
      obtain ⟨q, hq, rfl⟩ := inr_nI (by omega) h1
      obtain ⟨t, ht, rfl⟩ := inr_nI (by omega) h2
      unfold f_X4_look
      by_cases hcache : I 4 0 6 = I 1 0 7
      · obtain ⟨nc, Ic, If, a1, a2, a3, a4, a5, ⟨a6, a7⟩, a8⟩ := C.2.2 hcache
        have Ac : EA P S Ic J := A.ptw a1 a2 a3
        have Tc : ET r nc sy Ic J := ⟨a6, T.2.1, T.2.2.1, by rw [a4, a5]; exact T.2.2.2⟩
        obtain ⟨I', J', u1, u2, u3, u4, u5⟩ := lk_run (n := nc) hq Ac Tc
        rw [a7] at u1
        injection u1 with u1
        subst u1
        obtain ⟨e1, e2, e3, e4⟩ := a8 q hq
        obtain ⟨b1, b2, b3, b4⟩ := u3
        have : (pz_bd (f_X9_begins fu J) fun q_5 => pz_bd (f_M9r fu 20 0 q_5 (0 : Int32) (0 : Int32) (nI q)) fun q_6 => if nI t = 0 then (some (q_6, (q_6 9 0 46))) else (if nI t = (1 : Int32) then (some (q_6, (q_6 9 0 47))) else (if nI t = (2 : Int32) then (some (q_6, (q_6 9 0 48))) else (some (q_6, (q_6 9 0 45)))))) = some (J', if t = 0 then J' 9 0 46 else if t = 1 then J' 9 0 47 else if t = 2 then J' 9 0 48 else J' 9 0 45) := by
          cases hb : f_X9_begins fu J with
          | none => rw [hb] at u2; cases u2
          | some Jb =>
            rw [hb, pz_bd_s] at u2
            rw [pz_bd_s, u2, pz_bd_s]
            exact ans_r ht
        rw [if_pos hcache, pz_bd_s, ans_eq hq ht, pz_bd_s, this]
        refine ⟨_, _, rfl, rfl, ?_, hI.ev (fun _ _ _ _ => rfl) u5⟩
        dsimp only
        rw [e1, e2, e3, e4, b1, b2, b3, b4]
      · generalize hI2 : mm_up I 4 0 6 (I 1 0 7) = I2
        have k2 : ∀ k, k ≠ 4 → I2 k = I k := fun k hk => by rw [← hI2, mm_up_ne hk]
        have A2 : EA P S I2 J := A.to (k2 1 (by decide)) (k2 2 (by decide)) (k2 6 (by decide)) (fun _ _ => rfl) (fun _ _ _ => rfl)
        have T2 : ET r n sy I2 J := T.to (k2 7 (by decide)) (k2 28 (by decide)) (fun _ _ => rfl) rfl rfl
        obtain ⟨I', J', u1, u2, u3, u4, u5⟩ := lk_run (n := n) hq A2 T2
        obtain ⟨b1, b2, b3, b4⟩ := u3
        have : (pz_bd (f_X9_begins fu J) fun q_5 => pz_bd (f_M9r fu 20 0 q_5 (0 : Int32) (0 : Int32) (nI q)) fun q_6 => if nI t = 0 then (some (q_6, (q_6 9 0 46))) else (if nI t = (1 : Int32) then (some (q_6, (q_6 9 0 47))) else (if nI t = (2 : Int32) then (some (q_6, (q_6 9 0 48))) else (some (q_6, (q_6 9 0 45)))))) = some (J', if t = 0 then J' 9 0 46 else if t = 1 then J' 9 0 47 else if t = 2 then J' 9 0 48 else J' 9 0 45) := by
          cases hb : f_X9_begins fu J with
          | none => rw [hb] at u2; cases u2
          | some Jb =>
            rw [hb, pz_bd_s] at u2
            rw [pz_bd_s, u2, pz_bd_s]
            exact ans_r ht
        have hlook : (pz_bd (f_X0_begin fu n I2 ((0 : Int32).toNatClampNeg + 1) (nI r)) fun q_3 => pz_bd (f_X4_note fu n q_3 (0 : Int32) ((0 : Int32).toNatClampNeg + 1) (0 : Int32)) fun q_4 => pz_bd (f_X4_note fu n q_4 (1 : Int32) ((0 : Int32).toNatClampNeg + 1) (0 : Int32)) fun q_5 => pz_bd (f_C4 fu n 20 0 q_5 (0 : Int32) (0 : Int32)) fun q_6 => some q_6) = some I' := by
          rw [show (0 : Int32).toNatClampNeg + 1 = 1 by decide, ← u1]
          unfold lk_body
          congr 1; funext q_3; congr 1; funext q_4; congr 1; funext q_5
          cases f_C4 fu n 20 0 q_5 0 0 <;> rfl
        rw [if_neg hcache, pz_lt_n, hlook, pz_bd_s, ans_eq hq ht, pz_bd_s, this]
        refine ⟨_, _, rfl, rfl, ?_, c, by omega, R.evb (fun k g0 g4 g1 g2 g3 => (u4 k g0 g1 g2 g3).trans (k2 k g4)) u5 (fun r' hr' hrr C' => ?_)⟩
        · dsimp only
          rw [b1, b2, b3, b4]
        · have er : r' = r := (nI_eqM (by omega) (by have := T.2.1; omega)).mp (hrr.symm.trans hr6)
          subst er
          show CA c r' I'
          have f1 : I' 1 = I2 1 := u4 1 (by decide) (by decide) (by decide) (by decide)
          have f4 : I' 4 = I2 4 := u4 4 (by decide) (by decide) (by decide) (by decide)
          have e46 : I' 4 0 6 = nI c := by rw [f4, ← hI2, mm_get, if_pos ⟨rfl, rfl, rfl⟩]; exact C.1
          refine ⟨by rw [f1, k2 1 (by decide)]; exact C.1, Or.inr ⟨c, Nat.le_refl _, e46⟩, fun _ => ⟨n, I2, I', fun j _ _ => by rw [f1], fun p _ => by rw [u4 2 (by decide) (by decide) (by decide) (by decide)], fun s _ => by rw [u4 6 (by decide) (by decide) (by decide) (by decide)], by rw [u4 7 (by decide) (by decide) (by decide) (by decide)], by rw [u4 28 (by decide) (by decide) (by decide) (by decide)], ⟨T.1, u1⟩, fun _ _ => ⟨rfl, rfl, rfl, rfl⟩⟩⟩
    · rw [b01_f h2, if_pos (rfl : (0 : Int32) = 0)]
      rcases inr_nle (by omega) h2 with w | ⟨w1, w2⟩
      · rw [if_pos w]; exact ⟨_, _, rfl, rfl, rfl, hI.mono⟩
      · rw [if_neg w1, if_neg (show ¬ p2 < 4 from fun h => by
          rw [i32_le, nI_int (by omega)] at w2
          rw [i32_lt, show (4 : Int32).toInt = 4 by decide] at h; omega)]; exact ⟨_, _, rfl, rfl, rfl, hI.mono⟩
  · rw [b01_f h1, if_pos (rfl : (0 : Int32) = 0)]
    rcases inr_nle (by omega) h1 with w | ⟨w1, w2⟩
    · rw [if_pos w]; exact ⟨_, _, rfl, rfl, rfl, hI.mono⟩
    · rw [if_neg w1, if_pos (show (2 : Int32) ≤ p1 from by
        rw [i32_le, nI_int (by omega)] at w2
        rw [i32_le, show (2 : Int32).toInt = 2 by decide]; omega)]; exact ⟨_, _, rfl, rfl, rfl, hI.mono⟩
