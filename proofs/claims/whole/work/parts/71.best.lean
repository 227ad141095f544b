/-! ===== best: the walk through all rows ===== -/
def BI (D : Nat) (I I' : mm_T) : Prop := (∀ k, k ≠ 0 → (k < 10 ∨ 15 < k) → (k < 22 ∨ 25 < k) → k ≠ 29 → I' k = I k) ∧ ∀ k j, j ≤ D + 1 → (k < 22 ∨ 25 < k) → k ≠ 29 → I' k j = I k j
def BJ (D : Nat) (J J' : mm_T) : Prop := (∀ k, k ≠ 9 → (k < 39 ∨ 44 < k) → J' k = J k) ∧ (∀ j, (j < 17 ∨ 48 < j) → J' 9 0 j = J 9 0 j) ∧ AB D J J'
def BQ (q : Nat) (I J : mm_T) : Prop := I 22 0 q = J 9 0 46 ∧ I 23 0 q = J 9 0 47 ∧ I 24 0 q = J 9 0 48 ∧ I 25 0 q = J 9 0 45
theorem AB.refl {D : Nat} {J : mm_T} : AB D J J := ⟨fun _ _ => rfl, fun _ _ => ⟨rfl, rfl⟩⟩
theorem AB.trans {D : Nat} {A B C : mm_T} (h : AB D A B) (g : AB D B C) : AB D A C := ⟨fun x hx => (g.1 x hx).trans (h.1 x hx), fun x hx => ⟨(g.2 x hx).1.trans (h.2 x hx).1, (g.2 x hx).2.trans (h.2 x hx).2⟩⟩
theorem AB.of {D : Nat} {A B : mm_T} (h42 : B 42 = A 42) (h43 : B 43 = A 43) (h44 : B 44 = A 44) : AB D A B := ⟨fun x _ => by rw [h42], fun x _ => by rw [h43, h44]; exact ⟨rfl, rfl⟩⟩
theorem AB.le {D : Nat} {A B : mm_T} (h : AB (D + 1) A B) : AB D A B := ⟨fun x hx => h.1 x (by omega), fun x hx => h.2 x (by omega)⟩
theorem AS.to {D : Nat} {J A B : mm_T} (h : AS D J A) (g : AB (D + 1) A B) : AS D J B := by
  obtain ⟨⟨a1, a2, a3, a4, a5, a6, a7⟩, aa⟩ := h
  refine ⟨⟨?_, ?_, ?_, ?_, ?_, ?_, ?_⟩, fun x hx => ?_⟩
  · rw [g.1 _ (by omega)]; exact a1
  · rw [g.1 _ (by omega)]; exact a2
  · rw [g.1 _ (by omega)]; exact a3
  · rw [g.1 _ (by omega)]; exact a4
  · rw [g.1 _ (by omega)]; exact a5
  · rw [g.1 _ (by omega)]; exact a6
  · rw [g.1 _ (by omega)]; exact a7
  · obtain ⟨y1, y2⟩ := g.2 (8 * D + x) (by omega)
    rw [y1, y2]; exact aa x hx
theorem BI.refl {D : Nat} {I : mm_T} : BI D I I := ⟨fun _ _ _ _ _ => rfl, fun _ _ _ _ _ => rfl⟩
theorem BI.trans {D : Nat} {A B C : mm_T} (h : BI D A B) (g : BI D B C) : BI D A C := ⟨fun k a b c d => (g.1 k a b c d).trans (h.1 k a b c d), fun k j a b c => (g.2 k j a b c).trans (h.2 k j a b c)⟩
theorem BI.le {D : Nat} {A B : mm_T} (h : BI (D + 1) A B) : BI D A B := ⟨h.1, fun k j a b c => h.2 k j (by omega) b c⟩
theorem BI.ofF {D : Nat} {A B : mm_T} (h : EF (D + 2) A B) : BI D A B := ⟨fun k a b c d => h.1 k a b d, fun k j a b c => h.2 k j (by omega) c⟩
theorem BJ.refl {D : Nat} {J : mm_T} : BJ D J J := ⟨fun _ _ _ => rfl, fun _ _ => rfl, AB.refl⟩
theorem BJ.trans {D : Nat} {A B C : mm_T} (h : BJ D A B) (g : BJ D B C) : BJ D A C := ⟨fun k a b => (g.1 k a b).trans (h.1 k a b), fun j a => (g.2.1 j a).trans (h.2.1 j a), h.2.2.trans g.2.2⟩
theorem BJ.ofG {D : Nat} {A B : mm_T} (h : RG A B) : BJ D A B := ⟨fun k a b => h.1 k a (by omega), fun j a => h.2 j (by omega), AB.of (h.1 42 (by decide) (by decide)) (h.1 43 (by decide) (by decide)) (h.1 44 (by decide) (by decide))⟩
theorem EA.evb {P S D : Nat} {I J I' J' : mm_T} (h : EA P S I J) (hi : BI D I I') (hj : BJ D J J') : EA P S I' J' := h.to (hi.1 1 (by decide) (by decide) (by decide) (by decide)) (hi.1 2 (by decide) (by decide) (by decide) (by decide)) (hi.1 6 (by decide) (by decide) (by decide) (by decide)) (fun j q => hj.2.1 j (by omega)) (fun k q q2 => hj.1 k (by omega) (by omega))
theorem ET.evb {r n D : Nat} {sy : Nat → (Nat → Int32) → Int32} {I J I' J' : mm_T} (h : ET r n sy I J) (hi : BI D I I') (hj : BJ D J J') : ET r n sy I' J' := h.to (hi.1 7 (by decide) (by decide) (by decide) (by decide)) (hi.1 28 (by decide) (by decide) (by decide) (by decide)) (fun j q => hj.2.1 j (by omega)) (hj.1 30 (by decide) (by decide)) (hj.1 31 (by decide) (by decide))
theorem RJ.refl {J : mm_T} : RJ J J := ⟨⟨rfl, rfl, rfl, rfl, rfl, rfl, rfl⟩, fun _ _ => ⟨rfl, rfl⟩⟩
theorem RJ.trans {A B C : mm_T} (h : RJ A B) (g : RJ B C) : RJ A C := ⟨⟨g.1.1.trans h.1.1, g.1.2.1.trans h.1.2.1, g.1.2.2.1.trans h.1.2.2.1, g.1.2.2.2.1.trans h.1.2.2.2.1, g.1.2.2.2.2.1.trans h.1.2.2.2.2.1, g.1.2.2.2.2.2.1.trans h.1.2.2.2.2.2.1, g.1.2.2.2.2.2.2.trans h.1.2.2.2.2.2.2⟩, fun x hx => ⟨(g.2 x hx).1.trans (h.2 x hx).1, (g.2 x hx).2.trans (h.2 x hx).2⟩⟩
theorem ES.keep {r P S a cl th ss i : Nat} {I J I' J' : mm_T} (h : ES r P S a cl th ss i I J) (hi0 : i ≠ 0) (h0 : ∀ j, j ≠ 8 → I' 0 i j = I 0 i j) (h11 : ∀ g, g < 8 → I' 11 i g = I 11 i g) (h12 : ∀ g, g < 8 → I' 12 i g = I 12 i g) (hj : RJ J J') : ES r P S a cl th ss i I' J' := by
  obtain ⟨⟨z1, z2, z3, z4, z5⟩, ⟨z6, z7, z8, z9⟩, ⟨y1, y2, y3, y4, y5⟩, ⟨x1, x2, x3⟩, w⟩ := h
  obtain ⟨⟨r1, r2, r3, r4, r5, r6, r7⟩, rr⟩ := hj
  refine ⟨⟨(h0 1 (by decide)).trans z1, ?_, ?_, ?_, ?_⟩, ⟨(h0 15 (by decide)).trans z6, r4.trans z7, z8, (h0 13 (by decide)).trans z9⟩, ⟨(h0 9 (by decide)).trans y1, r6.trans y2, (h0 7 (by decide)).trans y3, y4, y5⟩, ⟨r7.trans x1, x2, fun s _ e => absurd e hi0⟩, fun g hg => ?_⟩
  · rw [h0 10 (by decide), r1]; exact z2
  · rw [h0 11 (by decide), r2]; exact z3
  · rw [h0 12 (by decide), r3]; exact z4
  · rw [h0 14 (by decide), r5]; exact z5
  · rw [h11 g hg, h12 g hg, (rr g hg).1, (rr g hg).2]; exact w g hg
set_option maxHeartbeats 4000000 in
/-- the class goes on from an evening -/
theorem gof_sim {n r P S a cl th ss i i2 : Nat} {I J : mm_T} (Z : ES r P S a cl th ss i I J) (hr : r < 6) (hi : i ≠ 0) (hi2 : i2 ≠ 0) (hne : i2 ≠ i) : ∃ I', f_X0_goOnFrom fu n I i2 i = some I' ∧ ES r P S a cl th ss i2 I' J ∧ EF i2 I I' := by
  have hni : i ≠ i2 := fun e => hne e.symm
  have h1 : ¬ I 0 i 1 = -1 := by rw [Z.1.1]; exact nI_neg1 (by omega)
  have hcp : pz_cp (0 : Int32) (0 : Int32) (8 : Int32) 8 8 = true := by decide
  unfold f_X0_goOnFrom
  simp only [pz_lt_n, pz_gd_t hcp, pz_gd_t (decide_eq_true h1)]
  generalize hI5 : mm_row (mm_up I 0 i2 1 (I 0 i 1)) 11 i2 _ = I5
  generalize hI7 : mm_row I5 12 i2 _ = I7
  generalize hI' : mm_up (mm_up (mm_up (mm_up (mm_up (mm_up (mm_up (mm_up I7 0 i2 7 _) 0 i2 9 _) 0 i2 10 _) 0 i2 11 _) 0 i2 12 _) 0 i2 13 _) 0 i2 14 _) 0 i2 15 _ = I'
  have a7 : ∀ k, k ≠ 0 → k ≠ 11 → k ≠ 12 → I7 k = I k := fun k k0 k1 k2 => by rw [← hI7, mm_row_ne k2, ← hI5, mm_row_ne k1, mm_up_ne k0]
  have a0 : I7 0 = mm_up I 0 i2 1 (I 0 i 1) 0 := by rw [← hI7, mm_row_ne (by decide), ← hI5, mm_row_ne (by decide)]
  have a11 : ∀ g, g < 8 → I7 11 i2 g = I 11 i g := fun g hg => by
    rw [← hI7, mm_row_ne (by decide), ← hI5, mm_row_at, mm_up_ne (by decide)]
    unfold va_cpy
    rw [show (0 : Int32).toNatClampNeg = 0 by decide, show (8 : Int32).toNatClampNeg = 8 by decide, if_pos ⟨Nat.zero_le _, by omega⟩, Nat.zero_add, Nat.sub_zero]
  have a12 : ∀ g, g < 8 → I7 12 i2 g = I 12 i g := fun g hg => by
    rw [← hI7, mm_row_at]
    have e12 : ∀ j, I5 12 j = I 12 j := fun j => by rw [← hI5, mm_row_ne (by decide), mm_up_ne (by decide)]
    unfold va_cpy
    rw [e12, show (0 : Int32).toNatClampNeg = 0 by decide, show (8 : Int32).toNatClampNeg = 8 by decide, if_pos ⟨Nat.zero_le _, by omega⟩, Nat.zero_add, Nat.sub_zero]
  have ani : ∀ k j, j ≠ i2 → I7 k j = I k j := fun k j hj => by
    have e2 : ∀ (M : mm_T) (k' : Nat) (v : Nat → Int32), mm_row M k' i2 v k j = M k j := fun M k' v => by
      by_cases hk : k = k'
      · subst hk; exact mm_row_ni hj
      · rw [mm_row_ne hk]
    have e : ∀ (M : mm_T) (k' j' : Nat) (v : Int32), mm_up M k' i2 j' v k j = M k j := fun M k' j' v => e2 _ _ _
    rw [← hI7, e2, ← hI5, e2, e]
  have v : ∀ j, I' 0 i2 j = if j = 15 then I 0 i 15 else if j = 14 then I 0 i 14 else if j = 13 then I 0 i 13 else if j = 12 then I 0 i 12 else if j = 11 then I 0 i 11 else if j = 10 then I 0 i 10 else if j = 9 then I 0 i 9 else if j = 7 then I 0 i 7 else I7 0 i2 j := fun j => by
    rw [← hI']
    simp only [mm_get, true_and, hni, false_and, and_false, if_false, ani 0 i hni]
  have m0 : ∀ k, k ≠ 0 → I' k = I7 k := fun k hk => by rw [← hI']; simp only [mm_up_ne hk]
  have mni : ∀ j, j ≠ i2 → I' 0 j = I7 0 j := fun j hj => by rw [← hI']; simp only [mm_up_ni hj]
  clear hI' hI7 hI5
  obtain ⟨⟨z1, z2, z3, z4, z5⟩, ⟨z6, z7, z8, z9⟩, ⟨y1, y2, y3, y4, y5⟩, ⟨x1, x2, x3⟩, w⟩ := Z
  refine ⟨I', rfl, ⟨⟨?_, (v 10).trans z2, (v 11).trans z3, (v 12).trans z4, (v 14).trans z5⟩, ⟨(v 15).trans z6, z7, z8, (v 13).trans z9⟩, ⟨(v 9).trans y1, y2, (v 7).trans y3, y4, y5⟩, ⟨x1, x2, fun s _ e => absurd e hi2⟩, fun g hg => ?_⟩, fun k k0 k1 k2 => ?_, fun k j hj k2 => ?_⟩
  · refine (v 1).trans ?_
    show I7 0 i2 1 = nI r
    rw [a0, mm_get, if_pos ⟨rfl, rfl, rfl⟩]; exact z1
  · rw [m0 11 (by decide), m0 12 (by decide), a11 g hg, a12 g hg]; exact w g hg
  · rw [m0 k k0, a7 k k0 (by omega) (by omega)]
  · by_cases hk : k = 0
    · subst hk; rw [mni j hj, ani 0 j hj]
    · rw [m0 k hk, ani k j hj]
