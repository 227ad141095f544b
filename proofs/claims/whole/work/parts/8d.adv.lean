/-- bytes, numbers and names are as they were, on the way from one token to the next -/
def rd_P (B Sz t : Nat) (w a : Nat → Int32) (o c q : Nat) (I J : mm_T) : Prop :=
  BY B Sz t w I J ∧ q ≤ B ∧ (I 3 0 10 = -1 ∧ I 3 0 3 = nI c ∧ I 3 0 9 = nI q) ∧ (J 9 0 30 = 0 ∧ J 9 0 29 = nI o ∧ (∀ j, j < 6 → J 9 0 (17 + j) = a j) ∧ J 9 0 25 = nI q)
/-- nothing has failed: the token stands at p and ends at q, there are c ints of code, o are open, the names are a -/
def rd_G (B Sz t : Nat) (w a : Nat → Int32) (o c p q : Nat) (I J : mm_T) : Prop :=
  BY B Sz t w I J ∧ (p ≤ q ∧ q ≤ B) ∧ (I 3 0 10 = -1 ∧ I 3 0 3 = nI c ∧ I 3 0 8 = nI p ∧ I 3 0 9 = nI q) ∧ (J 9 0 30 = 0 ∧ J 9 0 29 = nI o ∧ (∀ j, j < 6 → J 9 0 (17 + j) = a j)) ∧ tk_ B Sz w p q I J
/-- something has failed, at the same place -/
def rd_F (B Sz : Nat) (I J : mm_T) : Prop := (∃ f, f ≤ B ∧ I 3 0 10 = nI f ∧ J 9 0 31 = nI (if f < B then f else Sz)) ∧ (∃ c, c ≤ 160 ∧ I 3 0 3 = nI c) ∧ I 3 0 6 = 2 ∧ J 9 0 30 = 1
def fr_I (I I' : mm_T) : Prop := (∀ k, k ≠ 3 → k ≠ 19 → I' k = I k) ∧ ∀ j, j ≠ 3 → (j < 6 ∨ 10 < j) → I' 3 0 j = I 3 0 j
def fr_J (J J' : mm_T) : Prop := (∀ k, k ≠ 9 → J' k = J k) ∧ ∀ j, (j < 25 ∨ 31 < j) → J' 9 0 j = J 9 0 j
theorem fr_I.rfl' {I : mm_T} : fr_I I I := ⟨fun _ _ _ => rfl, fun _ _ _ => rfl⟩
theorem fr_J.rfl' {J : mm_T} : fr_J J J := ⟨fun _ _ => rfl, fun _ _ => rfl⟩
theorem fr_I.tr {I I' I'' : mm_T} (h : fr_I I I') (g : fr_I I' I'') : fr_I I I'' := ⟨fun k a b => (g.1 k a b).trans (h.1 k a b), fun j a b => (g.2 j a b).trans (h.2 j a b)⟩
theorem fr_J.tr {J J' J'' : mm_T} (h : fr_J J J') (g : fr_J J' J'') : fr_J J J'' := ⟨fun k a => (g.1 k a).trans (h.1 k a), fun j a => (g.2 j a).trans (h.2 j a)⟩
theorem fr_J.up {J : mm_T} {j : Nat} {v : Int32} (h1 : 25 ≤ j) (h2 : j ≤ 31) : fr_J J (mm_up J 9 0 j v) := ⟨fun _ hk => mm_up_ne hk, fun i hi => by rw [mm_get, if_neg (by omega)]⟩
theorem BY.fr {B Sz t : Nat} {w : Nat → Int32} {I J I' J' : mm_T} (h : BY B Sz t w I J) (hI : fr_I I I') (hJ : fr_J J J') : BY B Sz t w I' J' :=
  h.to (hI.2 1 (by decide) (by decide)) (hI.1 18 (by decide) (by decide)) (hJ.2 23 (by decide)) (hJ.2 24 (by decide)) (hJ.1 30 (by decide))
theorem rd_G.P {B Sz t o c p q : Nat} {w a : Nat → Int32} {I J : mm_T} (h : rd_G B Sz t w a o c p q I J) (h25 : J 9 0 25 = nI q) : rd_P B Sz t w a o c q I J := by
  obtain ⟨h1, ⟨_, h2⟩, ⟨h3, h4, _, h5⟩, ⟨h6, h7, h8⟩, _⟩ := h
  exact ⟨h1, h2, ⟨h3, h4, h5⟩, h6, h7, h8, h25⟩
theorem rd_P.op {B Sz t o o' c q : Nat} {w a : Nat → Int32} {I J : mm_T} (h : rd_P B Sz t w a o c q I J) : rd_P B Sz t w a o' c q I (mm_up J 9 0 29 (nI o')) := by
  obtain ⟨h1, h2, h3, h6, h7, h8, h9⟩ := h
  exact ⟨h1.up _ (by decide) (by decide), h2, h3, by rw [mm_get, if_neg (by omega)]; exact h6, by rw [mm_get, if_pos ⟨rfl, rfl, rfl⟩], fun j hj => by rw [mm_get, if_neg (by omega)]; exact h8 j hj, by rw [mm_get, if_neg (by omega)]; exact h9⟩
theorem rd_G.op {B Sz t o o' c p q : Nat} {w a : Nat → Int32} {I J : mm_T} (h : rd_G B Sz t w a o c p q I J) : rd_G B Sz t w a o' c p q I (mm_up J 9 0 29 (nI o')) := by
  obtain ⟨h1, h2, h3, ⟨h6, h7, h8⟩, h9⟩ := h
  refine ⟨h1.up _ (by decide) (by decide), h2, h3, ⟨by rw [mm_get, if_neg (by omega)]; exact h6, by rw [mm_get, if_pos ⟨rfl, rfl, rfl⟩], fun j hj => by rw [mm_get, if_neg (by omega)]; exact h8 j hj⟩, ?_⟩
  have e : ∀ j, j ≠ 29 → mm_up J 9 0 29 (nI o') 9 0 j = J 9 0 j := fun j hj => by rw [mm_get, if_neg (fun q => hj q.2.2)]
  unfold tk_ at h9 ⊢
  rw [e 25 (by decide), e 26 (by decide), e 27 (by decide), e 28 (by decide)]
  exact h9
/-- the next token -/
theorem adv {n B Sz t o c q : Nat} {w a : Nat → Int32} {I J : mm_T} (h : rd_P B Sz t w a o c q I J) : ∃ p' q' I' J', f_X3_readToken fu n I = some I' ∧ f_X9_next fu J = some J' ∧ fr_I I I' ∧ fr_J J J' ∧ q ≤ p' ∧ I' 19 = I 19 ∧ rd_G B Sz t w a o c p' q' I' J' := by
  obtain ⟨h1, h2, ⟨h3, h4, h5⟩, h6, h7, h8, h9⟩ := h
  obtain ⟨p', q', I', J', g1, g2, g3, g4, g5, g6, g7, g8, g9, g10, g11⟩ := tok_sim (n := n) h1 h5 h2 h9
  have fI : fr_I I I' := ⟨fun k hk _ => g4 k hk, fun j _ hj => g5 j (by omega)⟩
  have fJ : fr_J J J' := ⟨g6, fun j hj => g7 j (by omega)⟩
  have hq : p' ≤ q' ∧ q' ≤ B := by
    rcases g10 with ⟨e1, e2, _⟩ | ⟨e1, e2, _⟩ <;> omega
  refine ⟨p', q', I', J', g2, g3, fI, fJ, g1, g4 19 (by decide), h1.fr fI fJ, hq, ⟨?_, ?_, g8, g9⟩, ⟨?_, ?_, fun j hj => ?_⟩, tk_of g10 g11⟩
  · rw [g5 10 (by decide)]; exact h3
  · rw [g5 3 (by decide)]; exact h4
  · rw [g7 30 (by decide)]; exact h6
  · rw [g7 29 (by decide)]; exact h7
  · rw [g7 (17 + j) (by omega)]; exact h8 j hj
/-- an int of code -/
def em_ (I : mm_T) (c : Nat) (v : Int32) : mm_T := mm_up (mm_up I 19 0 c v) 3 0 3 (nI (c + 1))
theorem em_3 {I : mm_T} {c : Nat} {v : Int32} : em_ I c v 3 0 3 = nI (c + 1) := by unfold em_; rw [mm_get, if_pos ⟨rfl, rfl, rfl⟩]
theorem em_j {I : mm_T} {c : Nat} {v : Int32} {j : Nat} (hj : j ≠ 3) : em_ I c v 3 0 j = I 3 0 j := by unfold em_; rw [mm_get, if_neg (fun q => hj q.2.2), mm_up_ne (by decide)]
theorem em_k {I : mm_T} {c : Nat} {v : Int32} {k : Nat} (h3 : k ≠ 3) (h19 : k ≠ 19) : em_ I c v k = I k := by unfold em_; rw [mm_up_ne h3, mm_up_ne h19]
theorem em_19 {I : mm_T} {c : Nat} {v : Int32} : em_ I c v 19 0 = upd (I 19 0) c v := by unfold em_; rw [mm_up_ne (by decide), mm_up_at]
theorem em_fr {I : mm_T} {c : Nat} {v : Int32} : fr_I I (em_ I c v) := ⟨fun _ h3 h19 => em_k h3 h19, fun _ hj _ => em_j hj⟩
theorem emit_g {N n c : Nat} {I : mm_T} {v : Int32} (h : I 3 0 3 = nI c) (hc : c < 160) : f_X3_emit N n I v = some (em_ I c v) := by
  unfold f_X3_emit em_
  rw [h, if_neg (show ¬ (160 : Int32) ≤ nI c by rw [i32_le, nI_int (by omega), show (160 : Int32).toInt = 160 by decide]; omega), pz_gd_t (nI_ix hc (by omega)), nI_cl (by omega), pz_lt_n, pz_lt_n, mm_up_ne (by decide), h, nI_1]
theorem emit_f {N n c : Nat} {I : mm_T} {v : Int32} (h : I 3 0 3 = nI c) (hc : c ≤ 160) : ∃ I' c', f_X3_emit N n I v = some I' ∧ c' ≤ 160 ∧ I' 3 0 3 = nI c' ∧ fr_I I I' ∧ ∀ j, j ≠ 3 → I' 3 0 j = I 3 0 j := by
  by_cases e : c < 160
  · exact ⟨_, c + 1, emit_g h e, by omega, em_3, em_fr, fun j hj => em_j hj⟩
  · refine ⟨I, c, ?_, hc, h, fr_I.rfl', fun _ _ => rfl⟩
    unfold f_X3_emit
    rw [h, if_pos (show (160 : Int32) ≤ nI c by rw [i32_le, nI_int (by omega), show (160 : Int32).toInt = 160 by decide]; omega)]
theorem rd_G.em {B Sz t o c p q : Nat} {w a : Nat → Int32} {I J : mm_T} {v : Int32} (h : rd_G B Sz t w a o c p q I J) : rd_G B Sz t w a o (c + 1) p q (em_ I c v) J := by
  obtain ⟨h1, h2, ⟨h3, h4, h5, h6⟩, h7, h8⟩ := h
  refine ⟨h1.fr em_fr fr_J.rfl', h2, ⟨by rw [em_j (by decide)]; exact h3, em_3, by rw [em_j (by decide)]; exact h5, by rw [em_j (by decide)]; exact h6⟩, h7, ?_⟩
  unfold tk_ at h8 ⊢
  rw [em_j (by decide), em_j (by decide)]
  exact h8
theorem rd_P.em {B Sz t o c q : Nat} {w a : Nat → Int32} {I J : mm_T} {v : Int32} (h : rd_P B Sz t w a o c q I J) : rd_P B Sz t w a o (c + 1) q (em_ I c v) J := by
  obtain ⟨h1, h2, ⟨h3, h4, h5⟩, h7⟩ := h
  exact ⟨h1.fr em_fr fr_J.rfl', h2, ⟨by rw [em_j (by decide)]; exact h3, em_3, by rw [em_j (by decide)]; exact h5⟩, h7⟩
theorem rd_F.em {B Sz N n : Nat} {I J : mm_T} (h : rd_F B Sz I J) (v : Int32) : ∃ I', f_X3_emit N n I v = some I' ∧ fr_I I I' ∧ rd_F B Sz I' J := by
  obtain ⟨⟨f, f1, f2, f3⟩, ⟨c, c1, c2⟩, h6, h30⟩ := h
  obtain ⟨I', c', g1, g2, g3, g4, g5⟩ := emit_f (N := N) (n := n) (v := v) c2 c1
  exact ⟨I', g1, g4, ⟨f, f1, by rw [g5 10 (by decide)]; exact f2, f3⟩, ⟨c', g2, g3⟩, by rw [g5 6 (by decide)]; exact h6, h30⟩
theorem rd_F.op {B Sz : Nat} {I J : mm_T} (h : rd_F B Sz I J) (v : Int32) : rd_F B Sz I (mm_up J 9 0 29 v) := by
  obtain ⟨⟨f, f1, f2, f3⟩, h2, h6, h30⟩ := h
  exact ⟨⟨f, f1, f2, by rw [mm_get, if_neg (by omega)]; exact f3⟩, h2, h6, by rw [mm_get, if_neg (by omega)]; exact h30⟩
/-- the first failing -/
theorem fail_g {n B Sz t o c p q : Nat} {w a : Nat → Int32} {I J : mm_T} (h : rd_G B Sz t w a o c p q I J) (hc : c ≤ 160) : ∃ I' J', f_X3_fail fu n I = some I' ∧ f_X9_fail fu J = some J' ∧ fr_I I I' ∧ fr_J J J' ∧ I' 19 = I 19 ∧ rd_F B Sz I' J' := by
  obtain ⟨h1, h2, ⟨h3, h4, h5, h6⟩, ⟨h7, h8, h9⟩, hk⟩ := h
  have h27 : J 9 0 27 = nI (if p < B then p else Sz) := by
    rcases hk with ⟨e1, _, _, _, e2⟩ | ⟨e1, e3, e2, _⟩
    · rw [if_neg (by omega)]; exact e2
    · rw [if_pos (by omega)]; exact e2
  unfold f_X3_fail f_X9_fail
  rw [if_pos h3, if_pos h7]
  simp only [pz_lt_n]
  refine ⟨_, _, rfl, rfl, ⟨fun k a b => by rw [mm_up_ne a, mm_up_ne a], fun j a b => by rw [mm_get, if_neg (by omega), mm_get, if_neg (by omega)]⟩, (fr_J.up (j := 30) (by decide) (by decide)).tr (fr_J.up (j := 31) (by decide) (by decide)), by rw [mm_up_ne (by decide), mm_up_ne (by decide)], ⟨p, by omega, ?_, ?_⟩, ⟨c, hc, ?_⟩, ?_, ?_⟩
  · rw [mm_get, if_neg (by omega), mm_get, if_pos ⟨rfl, rfl, rfl⟩, h5]
  · rw [mm_get, if_pos ⟨rfl, rfl, rfl⟩, mm_get, if_neg (by omega), h27]
  · rw [mm_get, if_neg (by omega), mm_get, if_neg (by omega)]; exact h4
  · rw [mm_get, if_pos ⟨rfl, rfl, rfl⟩]
  · rw [mm_get, if_neg (by omega), mm_get, if_pos ⟨rfl, rfl, rfl⟩]
/-- failing once more changes nothing -/
theorem fail_c {N n : Nat} {I : mm_T} {f : Nat} (hf : f < 1000) (h6 : I 3 0 6 = 2) (h10 : I 3 0 10 = nI f) : f_X3_fail N n I = some I := by
  unfold f_X3_fail
  rw [if_neg (show ¬ I 3 0 10 = -1 by rw [h10]; exact nI_neg1 (by omega)), pz_lt_n, mm_same h6]
theorem fail_9 {N : Nat} {J : mm_T} (h : J 9 0 30 = 1) : f_X9_fail N J = some J := by
  unfold f_X9_fail; rw [if_neg (by rw [h]; decide)]
