/-! ===== best: noting a better row ===== -/
def NT (I : mm_T) (i q : Nat) (x : Int32) : mm_T := mm_up (mm_up (mm_up (mm_up I 22 0 q (I 0 i 12)) 23 0 q (I 0 i 13)) 24 0 q (I 0 i 14)) 25 0 q x
theorem note_eq {n i q : Nat} {I : mm_T} {x : Int32} (hq : q < 2) : f_X4_note fu n I (nI q) i x = some (NT I i q x) := by
  unfold f_X4_note NT
  simp only [pz_gd_t (nI_ix hq (show 2 < 2147483648 by decide)), pz_lt_n, nI_cl (show q < 2147483648 by omega)]
  rw [mm_up_ne (show 0 ≠ 22 by decide), mm_up_ne (show 0 ≠ 23 by decide), mm_up_ne (show 0 ≠ 22 by decide)]
theorem NT_ne {I : mm_T} {i q : Nat} {x : Int32} {k : Nat} (h : k < 22 ∨ 25 < k) : NT I i q x k = I k := by
  unfold NT
  rw [mm_up_ne (by omega), mm_up_ne (by omega), mm_up_ne (by omega), mm_up_ne (by omega)]
theorem NT_at {I : mm_T} {i q : Nat} {x : Int32} : NT I i q x 22 0 q = I 0 i 12 ∧ NT I i q x 23 0 q = I 0 i 13 ∧ NT I i q x 24 0 q = I 0 i 14 ∧ NT I i q x 25 0 q = x := by
  unfold NT
  refine ⟨?_, ?_, ?_, ?_⟩
  · rw [mm_up_ne (by decide), mm_up_ne (by decide), mm_up_ne (by decide), mm_get, if_pos ⟨rfl, rfl, rfl⟩]
  · rw [mm_up_ne (by decide), mm_up_ne (by decide), mm_get, if_pos ⟨rfl, rfl, rfl⟩]
  · rw [mm_up_ne (by decide), mm_get, if_pos ⟨rfl, rfl, rfl⟩]
  · rw [mm_get, if_pos ⟨rfl, rfl, rfl⟩]
theorem NT_nq {I : mm_T} {i q q' : Nat} {x : Int32} (h : q' ≠ q) : NT I i q x 22 0 q' = I 22 0 q' ∧ NT I i q x 23 0 q' = I 23 0 q' ∧ NT I i q x 24 0 q' = I 24 0 q' ∧ NT I i q x 25 0 q' = I 25 0 q' := by
  unfold NT
  refine ⟨?_, ?_, ?_, ?_⟩
  · rw [mm_up_ne (by decide), mm_up_ne (by decide), mm_up_ne (by decide), mm_get, if_neg (fun e => h e.2.2)]
  · rw [mm_up_ne (by decide), mm_up_ne (by decide), mm_get, if_neg (fun e => h e.2.2), mm_up_ne (by decide)]
  · rw [mm_up_ne (by decide), mm_get, if_neg (fun e => h e.2.2), mm_up_ne (by decide), mm_up_ne (by decide)]
  · rw [mm_get, if_neg (fun e => h e.2.2), mm_up_ne (by decide), mm_up_ne (by decide), mm_up_ne (by decide)]
/-- row q is beaten -/
def bt (q : Nat) (I : mm_T) (i : Nat) : Prop := if q = 0 then ¬ (I 0 i 12 ≤ I 22 0 0) else (I 0 i 13 < I 23 0 1 ∨ (I 0 i 13 = I 23 0 1 ∧ ¬ (I 0 i 14 ≤ I 24 0 1)))
theorem loses_eq {n i : Nat} {I : mm_T} : ∃ b : Bool, f_X4_losesFewer fu n I i = some (b01 b) ∧ (b = true ↔ bt 1 I i) := by
  unfold f_X4_losesFewer bt
  rw [if_neg (by omega : ¬ (1 : Nat) = 0), show (1 : Int32).toNatClampNeg = 1 by decide]
  by_cases h1 : I 0 i 13 < I 23 0 1
  · rw [if_pos h1]; exact ⟨true, rfl, fun _ => Or.inl h1, fun _ => rfl⟩
  · rw [if_neg h1]
    by_cases h2 : I 0 i 13 = I 23 0 1
    · rw [if_pos h2]
      by_cases h3 : I 0 i 14 ≤ I 24 0 1
      · rw [if_pos h3]; exact ⟨false, rfl, (fun h => by cases h), fun h => by rcases h with h | h; exact absurd h h1; exact absurd h3 h.2⟩
      · rw [if_neg h3]; exact ⟨true, rfl, fun _ => Or.inr ⟨h2, h3⟩, fun _ => rfl⟩
    · rw [if_neg h2]; exact ⟨false, rfl, (fun h => by cases h), fun h => by rcases h with h | h; exact absurd h h1; exact absurd h.1 h2⟩
def NS (I I3 : mm_T) (i : Nat) (x : Int32) : Prop := (∀ k, (k < 22 ∨ 25 < k) → I3 k = I k) ∧ ∀ q, q < 2 → (bt q I i → I3 22 0 q = I 0 i 12 ∧ I3 23 0 q = I 0 i 13 ∧ I3 24 0 q = I 0 i 14 ∧ I3 25 0 q = x) ∧ (¬ bt q I i → I3 22 0 q = I 22 0 q ∧ I3 23 0 q = I 23 0 q ∧ I3 24 0 q = I 24 0 q ∧ I3 25 0 q = I 25 0 q)
theorem note1_c {n i : Nat} {I : mm_T} {x : Int32} : ∃ I3, (∀ (rc : Nat → mm_T → Int32 → Int32 → Option mm_T) (p1 p2 : Int32) (k24 : mm_T → Int32 → Int32 → Nat → Int32 → Option mm_T) (a1 a2 a4 : Int32), f_X4_goOn_L101 fu n rc p1 p2 k24 I a1 a2 i a4 x = f_X4_goOn_L117 fu n rc p1 p2 k24 I3 a1 a2 i a4 x) ∧ (bt 1 I i → I3 = NT I i 1 x) ∧ (¬ bt 1 I i → I3 = I) := by
  obtain ⟨b, h1, h2⟩ := loses_eq (n := n) (i := i) (I := I)
  unfold f_X4_goOn_L101
  rw [h1]
  cases b with
  | true =>
    refine ⟨NT I i 1 x, fun rc p1 p2 k24 a1 a2 a4 => ?_, fun _ => rfl, fun h => absurd (h2.mp rfl) h⟩
    rw [pz_bd_s, if_neg (by decide), show f_X4_note fu n I 1 i x = some (NT I i 1 x) from note_eq (q := 1) (by omega), pz_bd_s]
  | false =>
    refine ⟨I, fun rc p1 p2 k24 a1 a2 a4 => ?_, fun h => (by have := h2.mpr h; cases this), fun _ => rfl⟩
    rw [pz_bd_s, if_pos (by decide)]
theorem note_c {n i : Nat} {I : mm_T} {x : Int32} : ∃ I3, (∀ (rc : Nat → mm_T → Int32 → Int32 → Option mm_T) (p1 p2 : Int32) (k24 : mm_T → Int32 → Int32 → Nat → Int32 → Option mm_T) (a1 a2 a4 : Int32), (if (I 0 i 12) ≤ (I 22 0 (0 : Int32).toNatClampNeg) then (f_X4_goOn_L101 fu n rc p1 p2 k24 I a1 a2 i a4 x) else (pz_bd (f_X4_note fu n I (0 : Int32) i x) fun q_12 => f_X4_goOn_L101 fu n rc p1 p2 k24 q_12 a1 a2 i a4 x)) = f_X4_goOn_L117 fu n rc p1 p2 k24 I3 a1 a2 i a4 x) ∧ NS I I3 i x := by
  rw [show (0 : Int32).toNatClampNeg = 0 by decide]
  by_cases h0 : I 0 i 12 ≤ I 22 0 0
  · obtain ⟨I3, k1, k2, k3⟩ := note1_c (n := n) (i := i) (I := I) (x := x)
    have nb0 : ¬ bt 0 I i := by unfold bt; rw [if_pos rfl]; exact fun h => h h0
    refine ⟨I3, fun rc p1 p2 k24 a1 a2 a4 => by rw [if_pos h0]; exact k1 rc p1 p2 k24 a1 a2 a4, ?_⟩
    by_cases h1 : bt 1 I i
    · rw [k2 h1]
      refine ⟨fun k hk => NT_ne hk, fun q hq => ⟨fun hb => ?_, fun hb => ?_⟩⟩
      · rcases (by omega : q = 0 ∨ q = 1) with e | e <;> subst e
        · exact absurd hb nb0
        · exact NT_at
      · rcases (by omega : q = 0 ∨ q = 1) with e | e <;> subst e
        · exact NT_nq (by omega)
        · exact absurd h1 hb
    · rw [k3 h1]
      refine ⟨fun k hk => rfl, fun q hq => ⟨fun hb => ?_, fun hb => ⟨rfl, rfl, rfl, rfl⟩⟩⟩
      rcases (by omega : q = 0 ∨ q = 1) with e | e <;> subst e
      · exact absurd hb nb0
      · exact absurd hb h1
  · obtain ⟨I3, k1, k2, k3⟩ := note1_c (n := n) (i := i) (I := NT I i 0 x) (x := x)
    have b0 : bt 0 I i := by unfold bt; rw [if_pos rfl]; exact h0
    have n0 : NT I i 0 x 0 = I 0 := NT_ne (by omega)
    have nq := NT_nq (I := I) (i := i) (q := 0) (q' := 1) (x := x) (by omega)
    have b1 : bt 1 (NT I i 0 x) i ↔ bt 1 I i := by
      unfold bt; rw [if_neg (by omega), if_neg (by omega), n0, nq.2.1, nq.2.2.1]
    refine ⟨I3, fun rc p1 p2 k24 a1 a2 a4 => by rw [if_neg h0, show f_X4_note fu n I 0 i x = some (NT I i 0 x) from note_eq (q := 0) (by omega), pz_bd_s]; exact k1 rc p1 p2 k24 a1 a2 a4, ?_⟩
    by_cases h1 : bt 1 I i
    · rw [k2 (b1.mpr h1)]
      have w := NT_at (I := NT I i 0 x) (i := i) (q := 1) (x := x)
      have w0 := NT_nq (I := NT I i 0 x) (i := i) (q := 1) (q' := 0) (x := x) (by omega)
      have w1 := NT_at (I := I) (i := i) (q := 0) (x := x)
      rw [n0] at w
      refine ⟨fun k hk => (NT_ne hk).trans (NT_ne hk), fun q hq => ⟨fun hb => ?_, fun hb => ?_⟩⟩
      · rcases (by omega : q = 0 ∨ q = 1) with e | e <;> subst e
        · exact ⟨w0.1.trans w1.1, w0.2.1.trans w1.2.1, w0.2.2.1.trans w1.2.2.1, w0.2.2.2.trans w1.2.2.2⟩
        · exact w
      · rcases (by omega : q = 0 ∨ q = 1) with e | e <;> subst e
        · exact absurd b0 hb
        · exact absurd h1 hb
    · rw [k3 (fun h => h1 (b1.mp h))]
      refine ⟨fun k hk => NT_ne hk, fun q hq => ⟨fun hb => ?_, fun hb => ?_⟩⟩
      · rcases (by omega : q = 0 ∨ q = 1) with e | e <;> subst e
        · exact NT_at
        · exact absurd hb h1
      · rcases (by omega : q = 0 ∨ q = 1) with e | e <;> subst e
        · exact absurd b0 hb
        · exact nq
/-- the reference notes -/
theorem rows_r {r P S a cl th ss i q D : Nat} {I J I3 : mm_T} {x : Int32} (A : EA P S I J) (Z : ES r P S a cl th ss i I J) (hq : q < 2) (B : BQ q I J) (hN : NS I I3 i x) : ∃ J3, (∀ (rc : Nat → mm_T → Int32 → Int32 → Int32 → Option mm_T), D < 1000 → f_X9_rows fu rc J (nI (D + 1)) x (nI q) = f_X9_rows_L41 fu rc (nI (D + 1)) x (nI q) J3 (nI (D + 1)) x (nI q)) ∧ (∀ k, k ≠ 9 → J3 k = J k) ∧ (∀ j, (j < 45 ∨ 48 < j) → J3 9 0 j = J 9 0 j) ∧ BQ q I3 J3 := by
  have hl := left_sim A Z
  obtain ⟨n1, n2⟩ := hN
  obtain ⟨n3, n4⟩ := n2 q hq
  obtain ⟨b1, b2, b3, b4⟩ := B
  obtain ⟨⟨z1, z10, z11, z12, z14⟩, ⟨z15, y35, zth, z13⟩, _⟩ := Z
  have hbet : ∃ b : Bool, f_X9_isBetter fu J (nI q) = some (b01 b) ∧ (b = true ↔ bt q I i) := by
    unfold f_X9_isBetter bt
    rcases (by omega : q = 0 ∨ q = 1) with e | e
    · subst e
      rw [if_pos (show nI 0 = (0 : Int32) from rfl), if_pos rfl, z12, b1]
      by_cases h : J 9 0 34 ≤ J 9 0 46
      · rw [if_pos h]; exact ⟨false, rfl, (fun h2 => by cases h2), fun h2 => absurd h h2⟩
      · rw [if_neg h]; exact ⟨true, rfl, fun _ => h, fun _ => rfl⟩
    · subst e
      rw [if_neg (show ¬ nI 1 = (0 : Int32) by decide), if_neg (by omega : ¬ (1 : Nat) = 0), hl, pz_bd_s, pz_bd_s, z13, z14, b2, b3]
      by_cases h1 : nI (P - pc th) < J 9 0 47
      · rw [if_pos h1]; exact ⟨true, rfl, fun _ => Or.inl h1, fun _ => rfl⟩
      · rw [if_neg h1]
        by_cases h2 : nI (P - pc th) = J 9 0 47
        · rw [if_pos h2]
          by_cases h3 : J 9 0 36 ≤ J 9 0 48
          · rw [if_pos h3]; exact ⟨false, rfl, (fun h => by cases h), fun h => by rcases h with h | h; exact absurd h h1; exact absurd h3 h.2⟩
          · rw [if_neg h3]; exact ⟨true, rfl, fun _ => Or.inr ⟨h2, h3⟩, fun _ => rfl⟩
        · rw [if_neg h2]; exact ⟨false, rfl, (fun h => by cases h), fun h => by rcases h with h | h; exact absurd h h1; exact absurd h.1 h2⟩
  obtain ⟨b, hb1, hb2⟩ := hbet
  cases b with
  | true =>
    obtain ⟨m1, m2, m3, m4⟩ := n3 (hb2.mp rfl)
    generalize hJ3 : mm_up (mm_up (mm_up (mm_up J 9 0 45 x) 9 0 46 (J 9 0 34)) 9 0 47 (nI (P - pc th))) 9 0 48 (J 9 0 36) = J3
    have v : ∀ j, J3 9 0 j = if j = 48 then J 9 0 36 else if j = 47 then nI (P - pc th) else if j = 46 then J 9 0 34 else if j = 45 then x else J 9 0 j := fun j => by
      rw [← hJ3]; simp only [mm_get, true_and]
    refine ⟨J3, fun rc hD => ?_, fun k hk => by rw [← hJ3]; simp only [mm_up_ne hk], fun j hj => by rw [v, if_neg (by omega), if_neg (by omega), if_neg (by omega), if_neg (by omega)], ?_⟩
    · unfold f_X9_rows
      rw [if_neg (show ¬ nI (D + 1) = (0 : Int32) from fun e => absurd ((nI_eqM (M := 0) (by omega) (by omega)).mp e) (by omega)), hb1, pz_bd_s, if_neg (by decide)]
      unfold f_X9_rows_L12
      simp only [pz_lt_n]
      have hl2 : f_X9_leftMany fu (mm_up (mm_up J 9 0 45 x) 9 0 46 (mm_up J 9 0 45 x 9 0 34)) = some (nI (P - pc th)) := by
        rw [← hl]
        unfold f_X9_leftMany
        rw [mm_get, if_neg (by omega), mm_get, if_neg (by omega), mm_get, if_neg (by omega), mm_get, if_neg (by omega)]
      rw [hl2, pz_bd_s, mm_get 9 0 34, if_neg (by omega), mm_get 9 0 36, if_neg (by omega), mm_get 9 0 36, if_neg (by omega), mm_get 9 0 36, if_neg (by omega), hJ3]
    · refine ⟨?_, ?_, ?_, ?_⟩
      · rw [m1, v, if_neg (by omega), if_neg (by omega), if_pos rfl]; exact z12
      · rw [m2, v, if_neg (by omega), if_pos rfl]; exact z13
      · rw [m3, v, if_pos rfl]; exact z14
      · rw [m4, v, if_neg (by omega), if_neg (by omega), if_neg (by omega), if_pos rfl]
  | false =>
    obtain ⟨m1, m2, m3, m4⟩ := n4 (fun h => by have := hb2.mpr h; cases this)
    refine ⟨J, fun rc hD => ?_, fun k hk => rfl, fun j hj => rfl, m1.trans b1, m2.trans b2, m3.trans b3, m4.trans b4⟩
    unfold f_X9_rows
    rw [if_neg (show ¬ nI (D + 1) = (0 : Int32) from fun e => absurd ((nI_eqM (M := 0) (by omega) (by omega)).mp e) (by omega)), hb1, pz_bd_s, if_pos (by decide)]
