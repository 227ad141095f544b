/-! ===== what a text says, on both sides ===== -/
theorem l61_end {n t i cnt E : Nat} {p1 k : Int32} {I : mm_T} (ht : t < 1000) : f_X7_worth_L61 fu n (nI t) p1 i (cnt + 1) I (nI E) k (nI E) = some (I, I 29 t 0) := by
  rw [f_X7_worth_L61, if_pos (show nI E ≤ nI E from by rw [i32_le]; omega), nI_cl (by omega), show (0 : Int32).toNatClampNeg = 0 by decide]
theorem seg_val {c a : Nat → Int32} {lo hi n t i len : Nat} {v p1 : Int32} {I : mm_T} (s : SEG c a lo hi v 31) (ht : t < 1000) (hl : hi ≤ len) (hl2 : len < 900) (h28 : I 28 t 1000 = nI len) (hc : ∀ j, j < hi → I 28 t j = c j) (ha : I 10 i = a) : ∃ f, f_X7_worth_L61 fu n (nI t) p1 i fu I (nI hi) (nI 0) (nI lo) = some (mm_row I 29 t f, v) := by
  have hp := s.pos
  obtain ⟨f, f1, f2, f3⟩ := seg_run s (n := n) (t := t) (i := i) (E := hi) (len := len) (p1 := p1) ht hl (by omega) 0 (999 - (hi - lo) + 1) I (by omega) (Nat.le_refl _) h28 hc ha
  refine ⟨f, ?_⟩
  have e : ∀ m, m = fu → f_X7_worth_L61 fu n (nI t) p1 i m I (nI hi) (nI 0) (nI lo) = some (mm_row I 29 t f, v) → f_X7_worth_L61 fu n (nI t) p1 i fu I (nI hi) (nI 0) (nI lo) = some (mm_row I 29 t f, v) := fun m hm h => by rw [← hm] at h ⊢; exact h
  refine e (999 - (hi - lo) + 1 + (hi - lo)) (by show _ = 1000; omega) ?_
  rw [f3, l61_end ht, mm_row_at, f2]
theorem SEG.uniq {c a : Nat → Int32} {lo hi : Nat} {v v' : Int32} (s : SEG c a lo hi v 31) (s' : SEG c a lo hi v' 31) (hh : hi ≤ 160) : v = v' := by
  obtain ⟨K, hK⟩ : ∃ K : mm_T, K = fun k _ => if k = 28 then (fun j => if j = 1000 then nI hi else c j) else a := ⟨_, rfl⟩
  have h1 : K 28 0 1000 = nI hi := by rw [hK]; rfl
  have h2 : ∀ j, j < hi → K 28 0 j = c j := fun j hj => by rw [hK]; exact if_neg (show ¬ j = 1000 by omega)
  have h3 : K 10 0 = a := by rw [hK]; rfl
  obtain ⟨f, hf⟩ := seg_val (n := 0) (t := 0) (i := 0) (p1 := 0) s (by decide) (Nat.le_refl _) (by omega) h1 h2 h3
  obtain ⟨g, hg⟩ := seg_val (n := 0) (t := 0) (i := 0) (p1 := 0) s' (by decide) (Nat.le_refl _) (by omega) h1 h2 h3
  rw [hf] at hg
  exact (Prod.mk.inj (Option.some.inj hg)).2
theorem worth_s {n t i part c1 c2 c3 : Nat} {c a : Nat → Int32} {v0 v1 v2 : Int32} {I : mm_T} (ht : t < 1000) (hp : part < 3) (h3 : c3 ≤ 160) (h71 : I 7 t 1 = nI c1) (h72 : I 7 t 2 = nI c2) (h28 : I 28 t 1000 = nI c3) (hc : ∀ j, j < c3 → I 28 t j = c j) (ha : I 10 i = a) (s0 : SEG c a 0 c1 v0 31) (s1 : SEG c a c1 c2 v1 31) (s2 : SEG c a c2 c3 v2 31) : ∃ f, f_X7_worth fu n I (nI t) (nI part) i = some (mm_row I 29 t f, pk_ part v0 v1 v2) := by
  have p0 := s0.pos
  have p1 := s1.pos
  have p2 := s2.pos
  have ecl : (nI t).toNatClampNeg = t := nI_cl (by omega)
  rcases (by omega : part = 0 ∨ part = 1 ∨ part = 2) with e | e | e <;> subst e
  · obtain ⟨f, hf⟩ := seg_val (n := n) (p1 := nI 0) s0 ht (by omega) (by omega) h28 (fun j hj => hc j (by omega)) ha
    refine ⟨f, ?_⟩
    unfold f_X7_worth f_X7_worth_L24 f_X7_worth_L53
    rw [if_pos (show nI 0 = 0 by decide), if_pos (show nI 0 = 0 by decide), ecl, h71]
    exact hf
  · obtain ⟨f, hf⟩ := seg_val (n := n) (p1 := nI 1) s1 ht (by omega) (by omega) h28 (fun j hj => hc j (by omega)) ha
    refine ⟨f, ?_⟩
    unfold f_X7_worth f_X7_worth_L24 f_X7_worth_L53
    rw [if_neg (show ¬ nI 1 = 0 by decide), if_pos (show nI 1 = 1 by decide), if_neg (show ¬ nI 1 = 0 by decide), if_pos (show nI 1 = 1 by decide), ecl, h71, h72]
    exact hf
  · obtain ⟨f, hf⟩ := seg_val (n := n) (p1 := nI 2) s2 ht (by omega) (by omega) h28 (fun j hj => hc j (by omega)) ha
    refine ⟨f, ?_⟩
    unfold f_X7_worth f_X7_worth_L24 f_X7_worth_L53
    rw [if_neg (show ¬ nI 2 = 0 by decide), if_neg (show ¬ nI 2 = 1 by decide), if_neg (show ¬ nI 2 = 0 by decide), if_neg (show ¬ nI 2 = 1 by decide), ecl, h72, h28, nI_cl (show c3 < 2147483648 by omega)]
    exact hf
theorem TX.to {t : Nat} {i7 i28 j30 j31 i7' i28' j30' j31' : Nat → Int32} {sy : Nat → (Nat → Int32) → Int32} (h : TX t i7 i28 j30 j31 sy) (h7 : i7' = i7) (h28 : i28' = i28) (h31 : j31' t = j31 t) (h30 : ∀ j, j < 160 → j30' (160 * t + j) = j30 (160 * t + j)) : TX t i7' i28' j30' j31' sy := by
  obtain ⟨a1, a2, a3⟩ := h
  refine ⟨fun n I i part hp g1 g2 => a1 n I i part hp (by rw [g1, h7]) (by rw [g2, h28]), fun J part hp g1 g2 => a2 J part hp (by rw [g1, h31]) (fun j hj => by rw [g2 j hj, h30 j hj]), a3⟩
/-- a tape that is a text -/
theorem TX.new {n B Sz t : Nat} {w i7 i28 j30 j31 : Nat → Int32} {I I' : mm_T} (hS : B ≤ Sz ∧ Sz ≤ 160 ∧ t < 6) (hI : I 3 0 1 = nI B) (hw : ∀ j, j < B → I 18 0 j = w j ∧ j30 (160 * t + j) = w j ∧ ∃ v, v < 256 ∧ w j = nI v) (hb : ∀ j, B ≤ j → j < Sz → j30 (160 * t + j) = 32) (h31 : j31 t = nI Sz)
    (hr : f_X3_readTape fu n I = some (I', 1)) (h71 : i7 1 = I' 3 0 4) (h72 : i7 2 = I' 3 0 5) (h28 : i28 1000 = I' 3 0 3) (hc : ∀ j, j < 160 → i28 j = I' 19 0 j) : ∃ sy, TX t i7 i28 j30 j31 sy := by
  have rs : ∀ (J : mm_T) (part : Nat), part < 3 → J 31 0 t = j31 t → (∀ j, j < 160 → J 30 0 (160 * t + j) = j30 (160 * t + j)) → ∃ J' v, f_X9_read fu J (nI t) (nI part) = some (J', v) ∧ RF J J' ∧ ∃ c1 c2 c3 v0 v1 v2, c3 < 160 ∧ I' 3 0 4 = nI c1 ∧ I' 3 0 5 = nI c2 ∧ I' 3 0 3 = nI c3 ∧ SEG (I' 19 0) (fun j => J 9 0 (17 + j)) 0 c1 v0 31 ∧ SEG (I' 19 0) (fun j => J 9 0 (17 + j)) c1 c2 v1 31 ∧ SEG (I' 19 0) (fun j => J 9 0 (17 + j)) c2 c3 v2 31 ∧ v = pk_ part v0 v1 v2 := by
    intro J part hp g1 g2
    obtain ⟨I2, J', b, v, k1, k2, k3, k4, k5⟩ := read_sim (n := n) (B := B) (Sz := Sz) (t := t) (part := part) (w := w) (a := fun j => J 9 0 (17 + j)) (I := I) (J := J) hS hI (fun j hj => ⟨(hw j hj).1, (g2 j (by omega)).trans (hw j hj).2.1, (hw j hj).2.2⟩) (fun j x y => (g2 j (by omega)).trans (hb j x y)) (g1.trans h31) (fun _ _ => rfl) hp
    rw [hr] at k1
    obtain ⟨e1, e2⟩ := Prod.mk.inj (Option.some.inj k1)
    subst e1
    subst e2
    refine ⟨J', v, k2, k4, ?_⟩
    rcases k5.2 with ⟨_, _, h⟩ | ⟨h, _⟩
    · exact h
    · exact absurd h (by decide)
  have ex : ∀ a : Nat → Int32, ∃ V : Int32 × Int32 × Int32, ∃ c1 c2 c3, c3 < 160 ∧ I' 3 0 4 = nI c1 ∧ I' 3 0 5 = nI c2 ∧ I' 3 0 3 = nI c3 ∧ SEG (I' 19 0) a 0 c1 V.1 31 ∧ SEG (I' 19 0) a c1 c2 V.2.1 31 ∧ SEG (I' 19 0) a c2 c3 V.2.2 31 := by
    intro a
    obtain ⟨J, hJ⟩ : ∃ J : mm_T, J = fun k _ => if k = 9 then (fun j => a (j - 17)) else if k = 30 then j30 else j31 := ⟨_, rfl⟩
    have e9 : ∀ j, J 9 0 (17 + j) = a j := fun j => by rw [hJ]; show a (17 + j - 17) = a j; rw [show 17 + j - 17 = j by omega]
    obtain ⟨J', v, _, _, c1, c2, c3, v0, v1, v2, k1, k2, k3, k4, k5, k6, k7, _⟩ := rs J 0 (by decide) (by rw [hJ]; rfl) (fun j _ => by rw [hJ]; rfl)
    have ea : (fun j => J 9 0 (17 + j)) = a := funext e9
    rw [ea] at k5 k6 k7
    exact ⟨(v0, v1, v2), c1, c2, c3, k1, k2, k3, k4, k5, k6, k7⟩
  obtain ⟨V, hV⟩ : ∃ V : (Nat → Int32) → Int32 × Int32 × Int32, ∀ a, ∃ c1 c2 c3, c3 < 160 ∧ I' 3 0 4 = nI c1 ∧ I' 3 0 5 = nI c2 ∧ I' 3 0 3 = nI c3 ∧ SEG (I' 19 0) a 0 c1 (V a).1 31 ∧ SEG (I' 19 0) a c1 c2 (V a).2.1 31 ∧ SEG (I' 19 0) a c2 c3 (V a).2.2 31 := ⟨fun a => Classical.choose (ex a), fun a => Classical.choose_spec (ex a)⟩
  have same : ∀ (a : Nat → Int32) (c1 c2 c3 : Nat) (v0 v1 v2 : Int32), c3 < 160 → I' 3 0 4 = nI c1 → I' 3 0 5 = nI c2 → I' 3 0 3 = nI c3 → SEG (I' 19 0) a 0 c1 v0 31 → SEG (I' 19 0) a c1 c2 v1 31 → SEG (I' 19 0) a c2 c3 v2 31 → (V a).1 = v0 ∧ (V a).2.1 = v1 ∧ (V a).2.2 = v2 := by
    intro a c1 c2 c3 v0 v1 v2 k1 k2 k3 k4 k5 k6 k7
    obtain ⟨d1, d2, d3, g1, g2, g3, g4, g5, g6, g7⟩ := hV a
    have q5 := k5.pos
    have q6 := k6.pos
    have q7 := k7.pos
    have r5 := g5.pos
    have r6 := g6.pos
    have r7 := g7.pos
    have e1 : d1 = c1 := (nI_eqM (by omega) (by omega)).mp (g2.symm.trans k2)
    have e2 : d2 = c2 := (nI_eqM (by omega) (by omega)).mp (g3.symm.trans k3)
    have e3 : d3 = c3 := (nI_eqM (by omega) (by omega)).mp (g4.symm.trans k4)
    subst e1
    subst e2
    subst e3
    exact ⟨g5.uniq k5 (by omega), g6.uniq k6 (by omega), g7.uniq k7 (by omega)⟩
  refine ⟨fun part a => pk_ part (V a).1 (V a).2.1 (V a).2.2, fun n' K i part hp g1 g2 => ?_, fun J part hp g1 g2 => ?_, fun part a b hab => ?_⟩
  · obtain ⟨c1, c2, c3, k1, k2, k3, k4, k5, k6, k7⟩ := hV (K 10 i)
    exact worth_s (n := n') (c := I' 19 0) (by omega) hp (by omega) (by rw [g1, h71]; exact k2) (by rw [g1, h72]; exact k3) (by rw [g2, h28]; exact k4) (fun j hj => by rw [g2]; exact hc j (by omega)) rfl k5 k6 k7
  · obtain ⟨J', v, e1, e2, c1, c2, c3, v0, v1, v2, k1, k2, k3, k4, k5, k6, k7, k8⟩ := rs J part hp g1 g2
    obtain ⟨s0, s1, s2⟩ := same _ c1 c2 c3 v0 v1 v2 k1 k2 k3 k4 k5 k6 k7
    refine ⟨J', ?_, e2⟩
    show _ = some (J', pk_ part (V fun j => J 9 0 (17 + j)).1 (V fun j => J 9 0 (17 + j)).2.1 (V fun j => J 9 0 (17 + j)).2.2)
    rw [e1, k8, s0, s1, s2]
  · obtain ⟨c1, c2, c3, k1, k2, k3, k4, k5, k6, k7⟩ := hV b
    have hba : ∀ j, j < 6 → a j = b j := hab
    obtain ⟨s0, s1, s2⟩ := same a c1 c2 c3 _ _ _ k1 k2 k3 k4 (k5.cong hba fun _ _ => rfl) (k6.cong hba fun _ _ => rfl) (k7.cong hba fun _ _ => rfl)
    show pk_ part (V a).1 (V a).2.1 (V a).2.2 = _
    rw [s0, s1, s2]
