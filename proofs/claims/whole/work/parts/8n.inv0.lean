/-! ===== the start ===== -/
theorem inv_of {I J : mm_T} (i1 : I 1 0 2 = 0 ∧ I 1 0 3 = 0 ∧ I 1 0 4 = 0 ∧ I 1 0 5 = 60 ∧ I 1 0 6 = 0 ∧ I 1 0 7 = 0) (i8 : I 8 0 2 = 0 ∧ I 8 0 5 = 1 ∧ I 3 0 1 = 0 ∧ I 4 0 6 = -1 ∧ I 20 0 0 = 0) (is : ∀ s, s < 4 → I 26 0 s ≠ -1 ∧ I 5 s 1 = -1)
    (j9 : J 9 0 9 = 0 ∧ J 9 0 14 = 0 ∧ J 9 0 15 = 0 ∧ J 9 0 16 = 60 ∧ J 9 0 4 = 0 ∧ J 9 0 52 = -1 ∧ J 9 0 6 = 0 ∧ J 9 0 3 = 1) (js : ∀ s, s < 4 → J 47 0 s = 0) (tx : ∃ sy, TX 0 (I 7 0) (I 28 0) (J 30 0) (J 31 0) sy) : Inv 0 144 I J := by
  obtain ⟨a2, a3, a4, a5, a6, a7⟩ := i1
  obtain ⟨b1, b2, b3, b4, b5⟩ := i8
  obtain ⟨c1, c2, c3, c4, c5, c6, c7, c8⟩ := j9
  refine ⟨0, Nat.zero_le _, 0, 0, 0, 1, 0, by omega, ?_, Or.inl ⟨b1, c6⟩, ⟨Nat.zero_le _, b3, c7, fun j hj => absurd hj (Nat.not_lt_zero _)⟩, fun s hs => ⟨(is s hs).1, Or.inl ⟨(is s hs).2, js s hs⟩⟩, ⟨rfl, by omega, by omega, b2, c8, fun t ht => ?_, fun t ht => ?_⟩, ⟨a7, Or.inl b4, fun e => ?_⟩⟩
  · unfold HI
    refine ⟨⟨by omega, by omega, a2, c1, a3, c2⟩, ⟨a4.trans c3.symm, a5.trans c4.symm, a6, c5, ?_, ?_⟩, fun p hp => absurd hp (Nat.not_lt_zero _), fun s hs => absurd hs (Nat.not_lt_zero _)⟩
    · rw [c3]; decide
    · rw [c3]; decide
  · have e : t = 0 := by omega
    rw [e]; exact b5
  · have e : t = 0 := by omega
    rw [e]; exact tx
  · rw [b4, a7] at e
    exact absurd e (by decide)
theorem ci_Un (k : Nat) (h5 : k ≠ 5) (h27 : k ≠ 27) (h26 : k ≠ 26) (h8 : k ≠ 8) (h20 : k ≠ 20) : ∀ t, ci_U t k = md_I ci_R 0 k
  | 0 => by
    have hT : ∀ s, ci_T s k = md_I ci_R 0 k := by
      intro s
      induction s with
      | zero => rw [ci_T]
      | succ s ih => rw [ci_T, mm_up_ne h20, ih]
    rw [ci_U, mm_up_ne h8, hT]
  | t + 1 => by
    rw [ci_U, mm_up_ne h26, mm_row_ne h27, mm_row_ne h5, ci_Un k h5 h27 h26 h8 h20 t]
theorem ci_7 : ci_U 4 7 0 = md_7 ci_R := by
  rw [ci_Un 7 (by decide) (by decide) (by decide) (by decide) (by decide) 4]
  unfold md_I
  rw [mm_row_ne (by decide), mm_row_ne (by decide), mm_row_at]
theorem ci_28 : ci_U 4 28 0 = md_28 ci_R := by
  rw [ci_Un 28 (by decide) (by decide) (by decide) (by decide) (by decide) 4]
  unfold md_I
  rw [mm_row_ne (by decide), mm_row_at]
theorem ci_by : ∀ j, j < 53 → (ci_B.getD j 0).toNatClampNeg < 256 ∧ ci_B.getD j 0 = nI (ci_B.getD j 0).toNatClampNeg := by decide +kernel
theorem ci_run : (f_X3_readTape fu 111 (ci_I 53)).map (fun z => (z.2, z.1 3 0 4, z.1 3 0 5, z.1 3 0 3)) = some (1, ci_R 3 0 4, ci_R 3 0 5, ci_R 3 0 3) := by decide +kernel
theorem ci_code : ∀ j, j < 160 → (f_X3_readTape fu 111 (ci_I 53)).map (fun z => z.1 19 0 j) = some (ci_R 19 0 j) := by decide +kernel
theorem jc_by : ∀ j, j < 53 → jc_C 30 0 (160 * 0 + j) = ci_B.getD j 0 := by decide +kernel
theorem jc_bl : jc_C 30 0 53 = 32 ∧ jc_C 30 0 54 = 32 ∧ jc_C 30 0 55 = 32 ∧ jc_C 31 0 0 = 56 := by decide +kernel
theorem md_71 {I : mm_T} : md_7 I 1 = I 3 0 4 := rfl
theorem md_72 {I : mm_T} : md_7 I 2 = I 3 0 5 := rfl
theorem md_2m {I : mm_T} : md_28 I 1000 = I 3 0 3 := rfl
theorem md_2j {I : mm_T} {j : Nat} (h : j < 160) : md_28 I j = I 19 0 j := if_neg (by omega)
theorem ci_18 {j : Nat} (h : j < 53) : ci_I 53 18 0 j = ci_B.getD j 0 := if_pos h
theorem run_of {x : Option (mm_T × Int32)} {R : mm_T} (hr : x.map (fun z => (z.2, z.1 3 0 4, z.1 3 0 5, z.1 3 0 3)) = some (1, R 3 0 4, R 3 0 5, R 3 0 3)) (hc : ∀ j, j < 160 → x.map (fun z => z.1 19 0 j) = some (R 19 0 j)) : ∃ I', x = some (I', 1) ∧ I' 3 0 4 = R 3 0 4 ∧ I' 3 0 5 = R 3 0 5 ∧ I' 3 0 3 = R 3 0 3 ∧ ∀ j, j < 160 → I' 19 0 j = R 19 0 j := by
  cases x with
  | none => cases hr
  | some z =>
    obtain ⟨I', b⟩ := z
    have hr : (b, I' 3 0 4, I' 3 0 5, I' 3 0 3) = (1, R 3 0 4, R 3 0 5, R 3 0 3) := Option.some.inj hr
    obtain ⟨e1, hr⟩ := Prod.mk.inj hr
    obtain ⟨e2, hr⟩ := Prod.mk.inj hr
    obtain ⟨e3, e4⟩ := Prod.mk.inj hr
    exact ⟨I', by rw [e1], e2, e3, e4, fun j hj => Option.some.inj (hc j hj)⟩
theorem tx_of {R U J : mm_T} {x : Option (mm_T × Int32)} (hx : f_X3_readTape fu 111 (ci_I 53) = x) (h7 : U 7 0 = md_7 R) (h28 : U 28 0 = md_28 R) (hr : x.map (fun z => (z.2, z.1 3 0 4, z.1 3 0 5, z.1 3 0 3)) = some (1, R 3 0 4, R 3 0 5, R 3 0 3)) (hc : ∀ j, j < 160 → x.map (fun z => z.1 19 0 j) = some (R 19 0 j)) (hb : ∀ j, j < 53 → J 30 0 (160 * 0 + j) = ci_B.getD j 0) (hl : J 30 0 53 = 32 ∧ J 30 0 54 = 32 ∧ J 30 0 55 = 32 ∧ J 31 0 0 = 56) : ∃ sy, TX 0 (U 7 0) (U 28 0) (J 30 0) (J 31 0) sy := by
  obtain ⟨I', e1, e2, e3, e4, e5⟩ := run_of hr hc
  refine TX.new (n := 111) (B := 53) (Sz := 56) (t := 0) (w := fun j => ci_B.getD j 0) (I := ci_I 53) (I' := I') (by decide) rfl (fun j hj => ⟨ci_18 hj, hb j hj, _, (ci_by j hj).1, (ci_by j hj).2⟩) (fun j h1 h2 => ?_) hl.2.2.2 (hx.trans e1) (by rw [h7, md_71, e2]) (by rw [h7, md_72, e3]) (by rw [h28, md_2m, e4]) (fun j hj => by rw [h28, md_2j hj, e5 j hj])
  rcases (by omega : j = 53 ∨ j = 54 ∨ j = 55) with e | e | e <;> subst e
  · exact hl.1
  · exact hl.2.1
  · exact hl.2.2.1
theorem tx_0 : ∃ sy, TX 0 (ci_U 4 7 0) (ci_U 4 28 0) (jc_C 30 0) (jc_C 31 0) sy := tx_of rfl ci_7 ci_28 ci_run ci_code jc_by jc_bl
theorem ci_v1 : ci_U 4 1 0 2 = 0 ∧ ci_U 4 1 0 3 = 0 ∧ ci_U 4 1 0 4 = 0 ∧ ci_U 4 1 0 5 = 60 ∧ ci_U 4 1 0 6 = 0 ∧ ci_U 4 1 0 7 = 0 := by decide +kernel
theorem ci_v8 : ci_U 4 8 0 2 = 0 ∧ ci_U 4 8 0 5 = 1 ∧ ci_U 4 3 0 1 = 0 ∧ ci_U 4 4 0 6 = -1 ∧ ci_U 4 20 0 0 = 0 := by decide +kernel
theorem ci_vs : ∀ s, s < 4 → ci_U 4 26 0 s ≠ -1 ∧ ci_U 4 5 s 1 = -1 := by decide +kernel
theorem jc_v9 : jc_C 9 0 9 = 0 ∧ jc_C 9 0 14 = 0 ∧ jc_C 9 0 15 = 0 ∧ jc_C 9 0 16 = 60 ∧ jc_C 9 0 4 = 0 ∧ jc_C 9 0 52 = -1 ∧ jc_C 9 0 6 = 0 ∧ jc_C 9 0 3 = 1 := by decide +kernel
theorem jc_vs : ∀ s, s < 4 → jc_C 47 0 s = 0 := by decide +kernel
theorem inv0 : Inv 0 144 ci_C jc_C := inv_of ci_v1 ci_v8 ci_vs jc_v9 jc_vs tx_0
