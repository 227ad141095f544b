/-! ===== a whole text, on both sides ===== -/
def tp_3 (n : Nat) (I : mm_T) : Option (mm_T × Int32) := if I 3 0 6 = 1 then f_X3_readTape_L101 fu n I else pz_bd (f_X3_fail fu n I) fun y => f_X3_readTape_L101 fu n y
def tp_2 (n : Nat) (I : mm_T) : Option (mm_T × Int32) := pz_lt (mm_up I 3 0 5 (I 3 0 3)) fun y => pz_bd (pt_X3 fu n y 109) fun z => tp_3 n z
def tp_1 (n : Nat) (I : mm_T) : Option (mm_T × Int32) := pz_lt (mm_up I 3 0 4 (I 3 0 3)) fun y => pz_bd (pt_X3 fu n y 108) fun z => tp_2 n z
theorem tp_2e {n : Nat} {I : mm_T} : tp_2 n I = pz_lt (mm_up I 3 0 5 (I 3 0 3)) fun y => pz_bd (f_X3_pass fu n y 109) fun q => pz_bd (f_C3 fu n 60 0 q 0 0) fun q_2 => pz_bd (f_X3_pass fu n q_2 59) fun z => tp_3 n z := by
  unfold tp_2
  exact congrArg (pz_lt _) (funext fun y => pt_bd)
theorem tp_1e {n : Nat} {I : mm_T} : tp_1 n I = pz_lt (mm_up I 3 0 4 (I 3 0 3)) fun y => pz_bd (f_X3_pass fu n y 108) fun q => pz_bd (f_C3 fu n 60 0 q 0 0) fun q_2 => pz_bd (f_X3_pass fu n q_2 59) fun z => tp_2 n z := by
  unfold tp_1
  exact congrArg (pz_lt _) (funext fun y => pt_bd)
theorem tape_eq {n : Nat} {I : mm_T} : f_X3_readTape fu n I = pz_lt (mm_up I 3 0 3 0) fun I_1 => pz_lt (mm_up I_1 3 0 9 0) fun I_2 => pz_lt (mm_up I_2 3 0 10 (-1)) fun I_3 => pz_bd (f_X3_readToken fu n I_3) fun q_4 => pz_bd (pt_X3 fu n q_4 107) fun q_5 => tp_1 n q_5 := by
  unfold f_X3_readTape
  refine congrArg (pz_lt _) (funext fun I_1 => congrArg (pz_lt _) (funext fun I_2 => congrArg (pz_lt _) (funext fun I_3 => congrArg (pz_bd _) (funext fun q_4 => Eq.symm ?_))))
  refine pt_bd.trans (congrArg (pz_bd _) (funext fun q_5 => congrArg (pz_bd _) (funext fun q_6 => congrArg (pz_bd _) (funext fun q_7 => ?_))))
  refine tp_1e.trans (congrArg (pz_lt _) (funext fun I_8 => congrArg (pz_bd _) (funext fun q_9 => congrArg (pz_bd _) (funext fun q_10 => congrArg (pz_bd _) (funext fun q_11 => ?_)))))
  exact tp_2e.trans (congrArg (pz_lt _) (funext fun I_12 => congrArg (pz_bd _) (funext fun q_13 => congrArg (pz_bd _) (funext fun q_14 => congrArg (pz_bd _) (funext fun q_15 => rfl)))))
def rf_1 (p1 p2 : Int32) (J : mm_T) (x : Int32) : Option (mm_T × Int32) := if J 9 0 30 = 0 then (pz_bd (f_X9_isWord fu J 116 97 107 101 115 0 0 0) fun y => pz_bd (f_X9_part fu J y) fun z => f_X9_read_L92 fu p1 p2 z.1 p2 x z.2) else f_X9_read_L92 fu p1 p2 J p2 x 0
theorem read_eq {J : mm_T} {p1 p2 : Int32} : f_X9_read fu J p1 p2 = pz_lt (mm_up J 9 0 23 (160 * p1)) fun J_1 => pz_gd (ix_in p1 6) <| pz_lt (mm_up J_1 9 0 24 (J_1 31 0 p1.toNatClampNeg)) fun J_3 => pz_lt (mm_up J_3 9 0 25 0) fun J_4 => pz_lt (mm_up J_4 9 0 29 0) fun J_5 => pz_lt (mm_up J_5 9 0 30 0) fun J_6 => pz_bd (f_X9_next fu J_6) fun q_7 => pz_bd (f_X9_isWord fu q_7 98 101 97 114 115 0 0 0) fun q_8 => pz_bd (f_X9_part fu q_7 q_8) fun q_9 => pz_lt q_9.2 fun x_10 => rf_1 p1 p2 q_9.1 x_10 := rfl
def pk_ (part : Nat) (x y z : Int32) : Int32 := if part = 0 then x else if part = 1 then y else z
theorem l146 {J : mm_T} {p1 p2 x y z : Int32} {part : Nat} (hp : part < 3) : f_X9_read_L146 fu p1 p2 J (nI part) x y z = some (J, pk_ part x y z) := by
  unfold f_X9_read_L146
  rcases (by omega : part = 0 ∨ part = 1 ∨ part = 2) with e | e | e <;> subst e
  · rw [if_pos (show nI 0 = 0 by decide)]; rfl
  · rw [if_neg (show ¬ nI 1 = 0 by decide), if_pos (show nI 1 = 1 by decide)]; rfl
  · rw [if_neg (show ¬ nI 2 = 0 by decide), if_neg (show ¬ nI 2 = 1 by decide)]; rfl
/-- what reading a text comes to -/
def rd_W (B Sz : Nat) (a : Nat → Int32) (part : Nat) (I' J' : mm_T) (b v : Int32) : Prop := I' 3 0 1 = 0 ∧ (
  (b = 1 ∧ J' 9 0 30 = 0 ∧ ∃ c1 c2 c3 v0 v1 v2, c3 < 160 ∧ I' 3 0 4 = nI c1 ∧ I' 3 0 5 = nI c2 ∧ I' 3 0 3 = nI c3 ∧ SEG (I' 19 0) a 0 c1 v0 31 ∧ SEG (I' 19 0) a c1 c2 v1 31 ∧ SEG (I' 19 0) a c2 c3 v2 31 ∧ v = pk_ part v0 v1 v2) ∨
  (b = 0 ∧ J' 9 0 30 = 1 ∧ ∃ f, f ≤ B ∧ I' 3 0 10 = nI f ∧ J' 9 0 31 = nI (if f < B then f else Sz)))
def fr_K (I I' : mm_T) : Prop := ∀ k, k ≠ 3 → k ≠ 19 → I' k = I k
theorem l65_f {n f : Nat} {I : mm_T} (hf : f < 1000) (h10 : I 3 0 10 = nI f) : f_X3_readTape_L101 fu n I = some (mm_up I 3 0 1 0, 0) := by
  unfold f_X3_readTape_L101
  rw [pz_lt_n, if_neg (show ¬ mm_up I 3 0 1 0 3 0 10 = -1 by rw [mm_get, if_neg (by omega), h10]; exact nI_neg1 (by omega))]
theorem end_f {n B Sz part : Nat} {a : Nat → Int32} {I J : mm_T} {p1 p2 x y z : Int32} (hB : B ≤ 160) (hp : part < 3) (h : rd_F B Sz I J) : ∃ I', tp_3 n I = some (I', 0) ∧ f_X9_read_L126 fu p1 p2 J (nI part) x y z = some (J, pk_ part x y z) ∧ fr_K I I' ∧ rd_W B Sz a part I' J 0 (pk_ part x y z) := by
  obtain ⟨⟨f, f1, f2, f3⟩, _, f5, f6⟩ := h
  refine ⟨mm_up I 3 0 1 0, ?_, ?_, fun k h3 _ => mm_up_ne h3, by rw [mm_get, if_pos ⟨rfl, rfl, rfl⟩], Or.inr ⟨rfl, f6, f, f1, by rw [mm_get, if_neg (by omega)]; exact f2, f3⟩⟩
  · unfold tp_3
    rw [if_neg (by rw [f5]; decide), fail_c (show f < 1000 by omega) f5 f2, pz_bd_n, l65_f (show f < 1000 by omega) f2]
  · unfold f_X9_read_L126
    rw [if_neg (by rw [f6]; decide), l146 hp]
theorem rd_F.s {B Sz j : Nat} {I J : mm_T} {v : Int32} (h : rd_F B Sz I J) (hj : j = 4 ∨ j = 5) : rd_F B Sz (mm_up I 3 0 j v) J := by
  obtain ⟨⟨f, f1, f2, f3⟩, ⟨c, c1, c2⟩, f5, f6⟩ := h
  have e : ∀ i, i ≠ j → mm_up I 3 0 j v 3 0 i = I 3 0 i := fun i hi => by rw [mm_get, if_neg (fun q => hi q.2.2)]
  exact ⟨⟨f, f1, by rw [e 10 (by omega)]; exact f2, f3⟩, ⟨c, c1, by rw [e 3 (by omega)]; exact c2⟩, by rw [e 6 (by omega)]; exact f5, f6⟩
theorem mid_f {n B Sz part : Nat} {a : Nat → Int32} {I J : mm_T} {p1 x y : Int32} (hB : B ≤ 160) (hp : part < 3) (h : rd_F B Sz I J) : ∃ I', tp_2 n I = some (I', 0) ∧ f_X9_read_L92 fu p1 (nI part) J (nI part) x y = some (J, pk_ part x y 0) ∧ fr_K I I' ∧ rd_W B Sz a part I' J 0 (pk_ part x y 0) := by
  have hs := h.s (j := 5) (v := I 3 0 3) (Or.inr rfl)
  obtain ⟨I', e1, e2, e3, e4⟩ := end_f (n := n) (a := a) (p1 := p1) (p2 := nI part) (x := x) (y := y) (z := 0) hB hp hs
  refine ⟨I', ?_, ?_, fun k h3 h19 => (e3 k h3 h19).trans (mm_up_ne h3), e4⟩
  · obtain ⟨⟨f, f1, f2, f3⟩, _, f5, f6⟩ := hs
    unfold tp_2
    rw [pz_lt_n, part_f (by decide) (show f < 1000 by omega) f5 f2, pz_bd_n, e1]
  · unfold f_X9_read_L92
    rw [if_neg (by rw [h.2.2.2]; decide), e2]
theorem fst_f {n B Sz part : Nat} {a : Nat → Int32} {I J : mm_T} {p1 x : Int32} (hB : B ≤ 160) (hp : part < 3) (h : rd_F B Sz I J) : ∃ I', tp_1 n I = some (I', 0) ∧ rf_1 p1 (nI part) J x = some (J, pk_ part x 0 0) ∧ fr_K I I' ∧ rd_W B Sz a part I' J 0 (pk_ part x 0 0) := by
  have hs := h.s (j := 4) (v := I 3 0 3) (Or.inl rfl)
  obtain ⟨I', e1, e2, e3, e4⟩ := mid_f (n := n) (a := a) (p1 := p1) (x := x) (y := 0) hB hp hs
  refine ⟨I', ?_, ?_, fun k h3 h19 => (e3 k h3 h19).trans (mm_up_ne h3), e4⟩
  · obtain ⟨⟨f, f1, f2, f3⟩, _, f5, f6⟩ := hs
    unfold tp_1
    rw [pz_lt_n, part_f (by decide) (show f < 1000 by omega) f5 f2, pz_bd_n, e1]
  · unfold rf_1
    rw [if_neg (by rw [h.2.2.2]; decide), e2]
theorem end_g {n B Sz t c1 c2 c3 p q part : Nat} {w a : Nat → Int32} {I J : mm_T} {p1 p2 v0 v1 v2 : Int32} (hG : rd_G B Sz t w a 0 c3 p q I J) (hc : c3 < p) (hp : part < 3) (h4 : I 3 0 4 = nI c1) (h5 : I 3 0 5 = nI c2) (s0 : SEG (I 19 0) a 0 c1 v0 31) (s1 : SEG (I 19 0) a c1 c2 v1 31) (s2 : SEG (I 19 0) a c2 c3 v2 31) : ∃ I' J' b, tp_3 n I = some (I', b) ∧ f_X9_read_L126 fu p1 p2 J (nI part) v0 v1 v2 = some (J', pk_ part v0 v1 v2) ∧ fr_K I I' ∧ fr_J J J' ∧ rd_W B Sz a part I' J' b (pk_ part v0 v1 v2) := by
  have hB : B ≤ 160 := by have := hG.1.1; omega
  have hpq := hG.2.1
  have h30 := hG.2.2.2.1.1
  unfold tp_3 f_X9_read_L126
  rw [if_pos h30]
  have htk : (I 3 0 6 = 1 ∧ J 9 0 26 = 0) ∨ (¬ I 3 0 6 = 1 ∧ ¬ J 9 0 26 = 0) := by
    rcases hG.2.2.2.2 with ⟨_, _, i6, j6, _⟩ | ⟨_, _, _, ⟨i6, j6, _⟩ | ⟨s, s1, i6, j6, _⟩ | ⟨_, j6, _, k, k1, i6, _⟩ | ⟨i6, j6⟩⟩
    · exact Or.inl ⟨i6, j6⟩
    · exact Or.inr ⟨by rw [i6]; decide, by rw [j6]; decide⟩
    · exact Or.inr ⟨by rw [i6]; exact fun e => (sg_ne s s1).1 e.symm, by rw [j6]; decide⟩
    · exact Or.inr ⟨by rw [i6]; exact (by decide : ∀ k, k < 13 → ¬ wt k = 1) k k1, by rw [j6]; decide⟩
    · exact Or.inr ⟨by rw [i6]; decide, by rw [j6]; decide⟩
  rcases htk with ⟨i6, j6⟩ | ⟨i6, j6⟩
  · have e : f_X3_readTape_L101 fu n I = some (mm_up I 3 0 1 0, 1) := by
      unfold f_X3_readTape_L101
      rw [pz_lt_n, if_pos (show mm_up I 3 0 1 0 3 0 10 = -1 by rw [mm_get, if_neg (by omega)]; exact hG.2.2.1.1)]
    rw [if_pos i6, if_pos j6, e, l146 hp]
    refine ⟨_, J, 1, rfl, rfl, fun k h3 _ => mm_up_ne h3, fr_J.rfl', by rw [mm_get, if_pos ⟨rfl, rfl, rfl⟩], Or.inl ⟨rfl, h30, c1, c2, c3, v0, v1, v2, by omega, by rw [mm_get, if_neg (by omega)]; exact h4, by rw [mm_get, if_neg (by omega)]; exact h5, by rw [mm_get, if_neg (by omega)]; exact hG.2.2.1.2.1, ?_, ?_, ?_, rfl⟩⟩
    · rw [mm_up_ne (by decide)]; exact s0
    · rw [mm_up_ne (by decide)]; exact s1
    · rw [mm_up_ne (by decide)]; exact s2
  · obtain ⟨I1, J1, f1, f2, f3, f4, f5, f6⟩ := fail_g (n := n) hG (show c3 ≤ 160 by omega)
    obtain ⟨⟨f, g1, g2, g3⟩, _, g5, g6⟩ := id f6
    rw [if_neg i6, if_neg j6, f1, pz_bd_n, f2, pz_bd_n, l146 hp, l65_f (show f < 1000 by omega) g2]
    exact ⟨_, J1, 0, rfl, rfl, fun k h3 h19 => (mm_up_ne h3).trans (f3.1 k h3 h19), f4, by rw [mm_get, if_pos ⟨rfl, rfl, rfl⟩], Or.inr ⟨rfl, g6, f, g1, by rw [mm_get, if_neg (by omega)]; exact g2, g3⟩⟩
theorem rd_G.s {B Sz t o c p q j : Nat} {w a : Nat → Int32} {I J : mm_T} {v : Int32} (h : rd_G B Sz t w a o c p q I J) (hj : j = 4 ∨ j = 5) : rd_G B Sz t w a o c p q (mm_up I 3 0 j v) J := by
  obtain ⟨h1, h2, ⟨h3, h4, h5, h6⟩, h7, h8⟩ := h
  have e : ∀ i, i ≠ j → mm_up I 3 0 j v 3 0 i = I 3 0 i := fun i hi => by rw [mm_get, if_neg (fun q => hi q.2.2)]
  refine ⟨h1.to (e 1 (by omega)) (mm_up_ne (by decide)) rfl rfl rfl, h2, ⟨by rw [e 10 (by omega)]; exact h3, by rw [e 3 (by omega)]; exact h4, by rw [e 8 (by omega)]; exact h5, by rw [e 9 (by omega)]; exact h6⟩, h7, ?_⟩
  unfold tk_ at h8 ⊢
  rw [e 6 (by omega), e 7 (by omega)]
  exact h8
theorem mid_g {n B Sz t c1 c2 p q part : Nat} {w a : Nat → Int32} {I J : mm_T} {p1 v0 v1 : Int32} (hG : rd_G B Sz t w a 0 c2 p q I J) (hc : c2 ≤ p) (hp : part < 3) (h4 : I 3 0 4 = nI c1) (s0 : SEG (I 19 0) a 0 c1 v0 31) (s1 : SEG (I 19 0) a c1 c2 v1 31) : ∃ I' J' b v, tp_2 n I = some (I', b) ∧ f_X9_read_L92 fu p1 (nI part) J (nI part) v0 v1 = some (J', v) ∧ fr_K I I' ∧ fr_J J J' ∧ rd_W B Sz a part I' J' b v := by
  have hB : B ≤ 160 := by have := hG.1.1; omega
  have hG2 := hG.s (j := 5) (v := I 3 0 3) (Or.inr rfl)
  have hp0 := s0.pos
  have hp1 := s1.pos
  have hw : f_X9_isWord fu J 102 105 114 115 116 0 0 0 = some (b01 (decide (mm_up I 3 0 5 (I 3 0 3) 3 0 6 = nI (100 + 9)))) := word_9 hG2.1 hG2.2.2.2.2 hG2.2.2.2.1.1
  obtain ⟨I2, J2, v2, k1, k2, k3, k4, k5⟩ := part_sim (n := n) (k := 9) (by decide) (by decide) hG2 hc
  have k1 : pt_X3 fu n (mm_up I 3 0 5 (I 3 0 3)) 109 = some I2 := k1
  unfold tp_2 f_X9_read_L92
  rw [pz_lt_n, k1, pz_bd_n, if_pos hG.2.2.2.1.1, hw, pz_bd_n, k2, pz_bd_n]
  dsimp only
  have fK : fr_K I I2 := fun k h3 h19 => (k3.1 k h3 h19).trans (mm_up_ne h3)
  rcases k5 with ⟨c3, p3, q3, y1, y2, y3, y4⟩ | hF
  · have e19 : ∀ j, j < c2 → I2 19 0 j = I 19 0 j := fun j hj => by rw [y3 j hj, mm_up_ne (by decide)]
    obtain ⟨I', J', b, z1, z2, z3, z4, z5⟩ := end_g (n := n) (p1 := p1) (p2 := nI part) (c1 := c1) (c2 := c2) y1 y2 hp (by rw [k3.2 4 (by decide) (by decide), mm_get, if_neg (by omega)]; exact h4) (by rw [k3.2 5 (by decide) (by decide), mm_get, if_pos ⟨rfl, rfl, rfl⟩]; exact hG.2.2.1.2.1) (s0.cong (fun _ _ => rfl) fun j hj => e19 j (by omega)) (s1.cong (fun _ _ => rfl) e19) y4
    exact ⟨I', J', b, _, z1, z2, fun k h3 h19 => (z3 k h3 h19).trans (fK k h3 h19), k4.tr z4, z5⟩
  · obtain ⟨I', z1, z2, z3, z4⟩ := end_f (n := n) (a := a) (p1 := p1) (p2 := nI part) (x := v0) (y := v1) (z := v2) hB hp hF
    exact ⟨I', J2, 0, _, z1, z2, fun k h3 h19 => (z3 k h3 h19).trans (fK k h3 h19), k4, z4⟩
theorem fst_g {n B Sz t c1 p q part : Nat} {w a : Nat → Int32} {I J : mm_T} {p1 v0 : Int32} (hG : rd_G B Sz t w a 0 c1 p q I J) (hc : c1 ≤ p) (hp : part < 3) (s0 : SEG (I 19 0) a 0 c1 v0 31) : ∃ I' J' b v, tp_1 n I = some (I', b) ∧ rf_1 p1 (nI part) J v0 = some (J', v) ∧ fr_K I I' ∧ fr_J J J' ∧ rd_W B Sz a part I' J' b v := by
  have hB : B ≤ 160 := by have := hG.1.1; omega
  have hG2 := hG.s (j := 4) (v := I 3 0 3) (Or.inl rfl)
  have hp0 := s0.pos
  have hw : f_X9_isWord fu J 116 97 107 101 115 0 0 0 = some (b01 (decide (mm_up I 3 0 4 (I 3 0 3) 3 0 6 = nI (100 + 8)))) := word_8 hG2.1 hG2.2.2.2.2 hG2.2.2.2.1.1
  obtain ⟨I2, J2, v2, k1, k2, k3, k4, k5⟩ := part_sim (n := n) (k := 8) (by decide) (by decide) hG2 hc
  have k1 : pt_X3 fu n (mm_up I 3 0 4 (I 3 0 3)) 108 = some I2 := k1
  unfold tp_1 rf_1
  rw [pz_lt_n, k1, pz_bd_n, if_pos hG.2.2.2.1.1, hw, pz_bd_n, k2, pz_bd_n]
  dsimp only
  have fK : fr_K I I2 := fun k h3 h19 => (k3.1 k h3 h19).trans (mm_up_ne h3)
  rcases k5 with ⟨c3, p3, q3, y1, y2, y3, y4⟩ | hF
  · have e19 : ∀ j, j < c1 → I2 19 0 j = I 19 0 j := fun j hj => by rw [y3 j hj, mm_up_ne (by decide)]
    obtain ⟨I', J', b, v, z1, z2, z3, z4, z5⟩ := mid_g (n := n) (p1 := p1) (c1 := c1) y1 (Nat.le_of_lt y2) hp (by rw [k3.2 4 (by decide) (by decide), mm_get, if_pos ⟨rfl, rfl, rfl⟩]; exact hG.2.2.1.2.1) (s0.cong (fun _ _ => rfl) e19) y4
    exact ⟨I', J', b, v, z1, z2, fun k h3 h19 => (z3 k h3 h19).trans (fK k h3 h19), k4.tr z4, z5⟩
  · obtain ⟨I', z1, z2, z3, z4⟩ := mid_f (n := n) (a := a) (p1 := p1) (x := v0) (y := v2) hB hp hF
    exact ⟨I', J2, 0, _, z1, z2, fun k h3 h19 => (z3 k h3 h19).trans (fK k h3 h19), k4, z4⟩
theorem nI_160 {t : Nat} : (160 : Int32) * nI t = nI (160 * t) := (Int32.ofNat_mul 160 t).symm
theorem read_sim {n B Sz t part : Nat} {w a : Nat → Int32} {I J : mm_T} (hS : B ≤ Sz ∧ Sz ≤ 160 ∧ t < 6) (hI : I 3 0 1 = nI B) (hw : ∀ j, j < B → I 18 0 j = w j ∧ J 30 0 (160 * t + j) = w j ∧ ∃ v, v < 256 ∧ w j = nI v) (hb : ∀ j, B ≤ j → j < Sz → J 30 0 (160 * t + j) = 32) (h31 : J 31 0 t = nI Sz) (ha : ∀ j, j < 6 → J 9 0 (17 + j) = a j) (hp : part < 3) :
    ∃ I' J' b v, f_X3_readTape fu n I = some (I', b) ∧ f_X9_read fu J (nI t) (nI part) = some (J', v) ∧ fr_K I I' ∧ RF J J' ∧ rd_W B Sz a part I' J' b v := by
  obtain ⟨I3, hI3⟩ : ∃ z, z = mm_up (mm_up (mm_up I 3 0 3 0) 3 0 9 0) 3 0 10 (-1) := ⟨_, rfl⟩
  obtain ⟨J6, hJ6⟩ : ∃ z, z = mm_up (mm_up (mm_up (mm_up (mm_up J 9 0 23 (nI (160 * t))) 9 0 24 (nI Sz)) 9 0 25 0) 9 0 29 0) 9 0 30 0 := ⟨_, rfl⟩
  have fK3 : fr_K I I3 := fun k h3 _ => by rw [hI3, mm_up_ne h3, mm_up_ne h3, mm_up_ne h3]
  have fJ6 : RF J J6 := ⟨fun k hk => by rw [hJ6, mm_up_ne hk, mm_up_ne hk, mm_up_ne hk, mm_up_ne hk, mm_up_ne hk], fun j hj => by rw [hJ6, mm_get, if_neg (by omega), mm_get, if_neg (by omega), mm_get, if_neg (by omega), mm_get, if_neg (by omega), mm_get, if_neg (by omega)]⟩
  have hY : BY B Sz t w I3 J6 := by
    refine ⟨hS, ⟨?_, ?_, ?_⟩, fun j hj => ?_, fun j h1 h2 => ?_⟩
    · rw [hI3, mm_get, if_neg (by omega), mm_get, if_neg (by omega), mm_get, if_neg (by omega)]; exact hI
    · rw [hJ6, mm_get, if_neg (by omega), mm_get, if_neg (by omega), mm_get, if_neg (by omega), mm_get, if_pos ⟨rfl, rfl, rfl⟩]
    · rw [hJ6, mm_get, if_neg (by omega), mm_get, if_neg (by omega), mm_get, if_neg (by omega), mm_get, if_neg (by omega), mm_get, if_pos ⟨rfl, rfl, rfl⟩]
    · rw [fK3 18 (by decide) (by decide), fJ6.1 30 (by decide)]; exact hw j hj
    · rw [fJ6.1 30 (by decide)]; exact hb j h1 h2
  have hP : rd_P B Sz t w a 0 0 0 I3 J6 := by
    refine ⟨hY, Nat.zero_le _, ⟨?_, ?_, ?_⟩, ?_, ?_, fun j hj => ?_, ?_⟩
    · rw [hI3, mm_get, if_pos ⟨rfl, rfl, rfl⟩]
    · rw [hI3, mm_get, if_neg (by omega), mm_get, if_neg (by omega), mm_get, if_pos ⟨rfl, rfl, rfl⟩]; rfl
    · rw [hI3, mm_get, if_neg (by omega), mm_get, if_pos ⟨rfl, rfl, rfl⟩]; rfl
    · rw [hJ6, mm_get, if_pos ⟨rfl, rfl, rfl⟩]
    · rw [hJ6, mm_get, if_neg (by omega), mm_get, if_pos ⟨rfl, rfl, rfl⟩]; rfl
    · rw [fJ6.2 (17 + j) (by omega)]; exact ha j hj
    · rw [hJ6, mm_get, if_neg (by omega), mm_get, if_neg (by omega), mm_get, if_pos ⟨rfl, rfl, rfl⟩]; rfl
  obtain ⟨p1, q1, I4, J7, g1, g2, g3, g4, g5, g6, g7⟩ := adv (n := n) hP
  have hw7 : f_X9_isWord fu J7 98 101 97 114 115 0 0 0 = some (b01 (decide (I4 3 0 6 = nI (100 + 7)))) := word_7 g7.1 g7.2.2.2.2 g7.2.2.2.1.1
  obtain ⟨I5, J8, v0, k1, k2, k3, k4, k5⟩ := part_sim (n := n) (k := 7) (by decide) (by decide) g7 (Nat.zero_le _)
  have k1 : pt_X3 fu n I4 107 = some I5 := k1
  have e1 : f_X3_readTape fu n I = tp_1 n I5 := by
    rw [tape_eq, pz_lt_n, pz_lt_n, pz_lt_n, ← hI3, g1, pz_bd_n, k1, pz_bd_n]
  have e2 : f_X9_read fu J (nI t) (nI part) = rf_1 (nI t) (nI part) J8 v0 := by
    rw [read_eq, pz_lt_n, pz_gd_t (nI_ix hS.2.2 (by omega)), nI_160, nI_cl (by omega), pz_lt_n, pz_lt_n, pz_lt_n, pz_lt_n, mm_up_ne (show 31 ≠ 9 by decide), h31, ← hJ6, g2, pz_bd_n, hw7, pz_bd_n, k2, pz_bd_n, pz_lt_n]
  rw [e1, e2]
  have fK : fr_K I I5 := fun k h3 h19 => (k3.1 k h3 h19).trans ((g3.1 k h3 h19).trans (fK3 k h3 h19))
  have fJ : RF J J8 := ⟨fun k hk => (k4.1 k hk).trans ((g4.1 k hk).trans (fJ6.1 k hk)), fun j hj => (k4.2 j (by omega)).trans ((g4.2 j (by omega)).trans (fJ6.2 j hj))⟩
  rcases k5 with ⟨c1, p3, q3, y1, y2, _, y4⟩ | hF
  · obtain ⟨I', J', b, v, z1, z2, z3, z4, z5⟩ := fst_g (n := n) (p1 := nI t) y1 (Nat.le_of_lt y2) hp y4
    exact ⟨I', J', b, v, z1, z2, fun k h3 h19 => (z3 k h3 h19).trans (fK k h3 h19), ⟨fun k hk => (z4.1 k hk).trans (fJ.1 k hk), fun j hj => (z4.2 j (by omega)).trans (fJ.2 j hj)⟩, z5⟩
  · obtain ⟨I', z1, z2, z3, z4⟩ := fst_f (n := n) (a := a) (p1 := nI t) (x := v0) (by omega) hp hF
    exact ⟨I', J8, 0, _, z1, z2, fun k h3 h19 => (z3 k h3 h19).trans (fK k h3 h19), fJ, z4⟩
