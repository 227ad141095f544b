/-! ===== the grammar, on both sides ===== -/
theorem rd_L.to {B Sz t o h : Nat} {w a : Nat → Int32} {cf cf' : mm_T → Option mm_T} {rf rf' : mm_T → Option (mm_T × Int32)} (H : rd_L B Sz t w a o h cf rf) (hc : ∀ I, cf' I = cf I) (hr : ∀ J, rf' J = rf J) : rd_L B Sz t w a o h cf' rf' := by
  intro c p q I J hG hcp
  obtain ⟨I', J', v, h1, h2, h3⟩ := H c p q I J hG hcp
  exact ⟨I', J', v, by rw [hc]; exact h1, by rw [hr]; exact h2, h3⟩
/-- what holds with o open, e more that may be -/
def rd_M (n B Sz t : Nat) (w a : Nat → Int32) (e o : Nat) : Prop := ∀ d dr, 7 * e ≤ d → 6 * e ≤ dr →
  rd_L B Sz t w a o (1 + 5 * e) (fun I => f_C3 fu n (d + 1) 2 I (nI o) 0) (fun J => f_M9e fu (dr + 1) 0 J) ∧
  rd_L B Sz t w a o (4 + 5 * e) (fun I => f_C3 fu n (d + 5) 0 I (nI 2) (nI o)) (fun J => f_M9e fu (dr + 4) 3 J) ∧
  rd_L B Sz t w a o (6 + 5 * e) (fun I => f_C3 fu n (d + 7) 0 I (nI 0) (nI o)) (fun J => f_M9e fu (dr + 6) 5 J)
theorem step_sim {n B Sz t o e d dr h1 h2 h0 : Nat} {w a : Nat → Int32} (ho : o ≤ 5) (hh1 : h1 ≤ 1 + 5 * e) (hh2 : h2 ≤ 4 + 5 * e) (hh0 : h0 ≤ 1 + 5 * e)
    (sub1 : o < 5 → rd_L B Sz t w a (o + 1) h1 (fun I => f_C3 fu n d 2 I (nI (o + 1)) 0) (fun J => f_M9e fu dr 0 J))
    (sub2 : o < 5 → rd_L B Sz t w a (o + 1) h2 (fun I => f_C3 fu n (d + 3) 0 I (nI 2) (nI (o + 1))) (fun J => f_M9e fu (dr + 3) 3 J))
    (sub0 : o < 5 → rd_L B Sz t w a (o + 1) h0 (fun I => f_C3 fu n d 0 I (nI 0) (nI (o + 1))) (fun J => f_M9e fu dr 5 J)) :
    rd_L B Sz t w a o (1 + 5 * e) (fun I => f_C3 fu n (d + 1) 2 I (nI o) 0) (fun J => f_M9e fu (dr + 1) 0 J) ∧
    rd_L B Sz t w a o (4 + 5 * e) (fun I => f_C3 fu n (d + 5) 0 I (nI 2) (nI o)) (fun J => f_M9e fu (dr + 4) 3 J) ∧
    rd_L B Sz t w a o (6 + 5 * e) (fun I => f_C3 fu n (d + 7) 0 I (nI 0) (nI o)) (fun J => f_M9e fu (dr + 6) 5 J) := by
  have k1 := one_sim (n := n) (B := B) (Sz := Sz) (t := t) (w := w) (a := a) (h := 1 + 5 * e) ho hh1 hh0 (by omega) sub1 sub0
  have k5 : rd_L B Sz t w a o (1 + 5 * e) (fun I => f_C3 fu n (d + 2) 0 I (nI 5) (nI o)) (fun J => f_M9e fu (dr + 1) 0 J) := k1.to (fun _ => lev_5) (fun _ => rfl)
  have k4 := added_sim (term_sim k5)
  have k3 := not_sim (d := d + 3) (h2 := h2) ho (by omega) k4 sub2
  have k2 := either_sim (both_sim k3)
  rw [show 1 + 5 * e + 1 + 1 + 1 = 4 + 5 * e by omega] at k3
  rw [show 1 + 5 * e + 1 + 1 + 1 + 1 + 1 = 6 + 5 * e by omega] at k2
  exact ⟨k1.to (fun _ => lev_one) (fun _ => rfl), k3, k2⟩
theorem main_sim {n B Sz t : Nat} {w a : Nat → Int32} : ∀ (e o : Nat), o + e = 5 → rd_M n B Sz t w a e o := by
  intro e
  induction e with
  | zero =>
    intro o ho d dr hd hr
    exact step_sim (e := 0) (h1 := 0) (h2 := 0) (h0 := 0) (by omega) (by omega) (by omega) (by omega) (fun h => absurd h (by omega)) (fun h => absurd h (by omega)) (fun h => absurd h (by omega))
  | succ e ih =>
    intro o ho d dr hd hr
    obtain ⟨d1, rfl⟩ : ∃ z, d = z + 7 := ⟨d - 7, by omega⟩
    obtain ⟨r1, rfl⟩ : ∃ z, dr = z + 6 := ⟨dr - 6, by omega⟩
    refine step_sim (e := e + 1) (h1 := 1 + 5 * e) (h2 := 4 + 5 * e) (h0 := 6 + 5 * e) (by omega) (by omega) (by omega) (by omega) (fun h => ?_) (fun h => ?_) (fun h => ?_)
    · exact (ih (o + 1) (by omega) (d1 + 6) (r1 + 5) (by omega) (by omega)).1
    · exact (ih (o + 1) (by omega) (d1 + 5) (r1 + 5) (by omega) (by omega)).2.1
    · exact (ih (o + 1) (by omega) d1 r1 (by omega) (by omega)).2.2
/-- an E, out of a good state -/
theorem e_sim {n B Sz t : Nat} {w a : Nat → Int32} : rd_L B Sz t w a 0 31 (fun I => f_C3 fu n 60 0 I 0 0) (fun J => f_M9e fu 60 5 J) := (main_sim 5 0 rfl 53 54 (by decide) (by decide)).2.2
/-! ===== a part of a text ===== -/
def pt_X3 (N n : Nat) (I : mm_T) (p1 : Int32) : Option (mm_T) := pz_bd (f_X3_pass N n I p1) fun q_1 => pz_bd (f_C3 N n 60 0 q_1 (0 : Int32) (0 : Int32)) fun q_2 => pz_bd (f_X3_pass N n q_2 (59 : Int32)) fun q_3 => some q_3
theorem pz_bd_as {α β γ : Type} {x : Option α} {f : α → Option β} {g : β → Option γ} : pz_bd (pz_bd x f) g = pz_bd x fun y => pz_bd (f y) g := by cases x <;> rfl
theorem pt_bd {γ : Type} {N n : Nat} {I : mm_T} {v : Int32} {g : mm_T → Option γ} : pz_bd (pt_X3 N n I v) g = pz_bd (f_X3_pass N n I v) fun q_1 => pz_bd (f_C3 N n 60 0 q_1 (0 : Int32) (0 : Int32)) fun q_2 => pz_bd (f_X3_pass N n q_2 (59 : Int32)) g := by
  unfold pt_X3
  refine pz_bd_as.trans (congrArg (pz_bd _) (funext fun y => ?_))
  refine pz_bd_as.trans (congrArg (pz_bd _) (funext fun z => ?_))
  exact pz_bd_as.trans (congrArg (pz_bd _) (funext fun q => rfl))
theorem pass_f {N n f : Nat} {I : mm_T} {v : Int32} (hv : ¬ (2 : Int32) = v) (hf : f < 1000) (h6 : I 3 0 6 = 2) (h10 : I 3 0 10 = nI f) : f_X3_pass N n I v = some I := by
  unfold f_X3_pass
  rw [if_neg (by rw [h6]; exact hv), pz_bd_id, fail_c hf h6 h10]
theorem part_f {n f : Nat} {I : mm_T} {v : Int32} (hv : ¬ (2 : Int32) = v) (hf : f < 1000) (h6 : I 3 0 6 = 2) (h10 : I 3 0 10 = nI f) : pt_X3 fu n I v = some I := by
  unfold pt_X3
  have e : f_C3 fu n 60 0 I 0 0 = some I := lev_f (n := n) (o := 0) hf h6 h10 5 0 53 rfl
  rw [pass_f hv hf h6 h10, pz_bd_n, e, pz_bd_n, pass_f (by decide) hf h6 h10, pz_bd_n]
theorem l34_b {J : mm_T} {p1 v : Int32} (h : J 9 0 30 = 1) : f_X9_part_L34 fu p1 J v = some (J, v) := by
  unfold f_X9_part_L34
  rw [sign_b h, pz_bd_n, if_pos rfl, fail_9 h, pz_bd_n, if_neg (by rw [h]; decide)]
theorem part_sim {n B Sz t c p q k : Nat} {w a : Nat → Int32} {I J : mm_T} (hk : k < 13) (hk1 : 1 ≤ k) (hG : rd_G B Sz t w a 0 c p q I J) (hcp : c ≤ p) : ∃ I' J' v, pt_X3 fu n I (nI (100 + k)) = some I' ∧ f_X9_part fu J (b01 (decide (I 3 0 6 = nI (100 + k)))) = some (J', v) ∧ fr_I I I' ∧ fr_J J J' ∧ ((∃ c' p' q', rd_G B Sz t w a 0 c' p' q' I' J' ∧ c' < p' ∧ (∀ j, j < c → I' 19 0 j = I 19 0 j) ∧ SEG (I' 19 0) a c c' v 31) ∨ rd_F B Sz I' J') := by
  have hB : B ≤ 160 := by have := hG.1.1; omega
  have hpq := hG.2.1
  obtain ⟨n1, n2, n3, n4⟩ := wt_ne k hk hk1
  unfold pt_X3 f_X9_part
  by_cases e : I 3 0 6 = nI (100 + k)
  · obtain ⟨hlt, h25⟩ := tk_ge hG.2.2.2.2 (by rw [e]; exact fun q => n1 q.symm) (by rw [e]; exact fun q => n2 q.symm)
    obtain ⟨p1, q1, I1, J1, g1, g2, g3, g4, g5, g6, g7⟩ := adv (n := n) (hG.P h25)
    obtain ⟨I2, J2, x2, s1, s2, s3, s4, s5⟩ := e_sim (n := n) c p1 q1 I1 J1 g7 (by omega)
    have s1 : f_C3 fu n 60 0 I1 0 0 = some I2 := s1
    have s2 : f_M9e fu 60 5 J1 = some (J2, x2) := s2
    have ep : f_X3_pass fu n I (nI (100 + k)) = some I1 := by
      unfold f_X3_pass
      rw [if_pos e, pz_bd_id, g1]
    rw [bt_ e, ep, pz_bd_n, s1, pz_bd_n, pz_bd_id]
    unfold f_X9_part_L8 f_X9_part_L19
    rw [if_pos hG.2.2.2.1.1, g2, pz_bd_n, if_pos g7.2.2.2.1.1, s2, pz_bd_n]
    rcases s5 with ⟨c2, p2, q2, k1, k2, k3, k4⟩ | hF
    · have hk4 := k4.pos
      have hpq2 := k1.2.1
      have s59 : f_X9_isSign fu J2 59 = _ := sign_r k1.2.2.2.2 k1.2.2.2.1.1 (s := 59) (by decide)
      unfold f_X3_pass f_X9_part_L34
      rw [s59, pz_bd_n]
      by_cases c59 : I2 3 0 6 = 59
      · obtain ⟨hlt2, h252⟩ := tk_ge k1.2.2.2.2 (by rw [c59]; decide) (by rw [c59]; decide)
        obtain ⟨p3, q3, I3, J3, y1, y2, y3, y4, y5, y6, y7⟩ := adv (n := n) (k1.P h252)
        rw [if_pos c59, bt_ (show I2 3 0 6 = nI 59 from c59), if_pos k1.2.2.2.1.1, y1, pz_bd_n, y2, pz_bd_n]
        exact ⟨I3, J3, x2, rfl, rfl, (g3.tr s3).tr y3, (g4.tr s4).tr y4, Or.inl ⟨c2, p3, q3, y7, by omega, fun j hj => by rw [y6, k3 j hj, g6], by rw [y6]; exact k4⟩⟩
      · obtain ⟨I3, J3, y1, y2, y3, y4, _, y6⟩ := fail_g (n := n) k1 (show c2 ≤ 160 by omega)
        rw [if_neg c59, bf_ (show ¬ I2 3 0 6 = nI 59 from c59), y1, pz_bd_n, y2, pz_bd_n, if_neg (by rw [y6.2.2.2]; decide)]
        exact ⟨I3, J3, x2, rfl, rfl, (g3.tr s3).tr y3, (g4.tr s4).tr y4, Or.inr y6⟩
    · obtain ⟨⟨f, f1, f2, f3⟩, f4, f5, f6⟩ := id hF
      rw [pass_f (by decide) (show f < 1000 by omega) f5 f2, l34_b f6]
      exact ⟨I2, J2, x2, rfl, rfl, g3.tr s3, g4.tr s4, Or.inr hF⟩
  · obtain ⟨I1, J1, y1, y2, y3, y4, _, y6⟩ := fail_g (n := n) hG (show c ≤ 160 by omega)
    obtain ⟨⟨f, f1, f2, f3⟩, f4, f5, f6⟩ := id y6
    have ep : f_X3_pass fu n I (nI (100 + k)) = some I1 := by
      unfold f_X3_pass
      rw [if_neg e, pz_bd_id, y1]
    have el : f_C3 fu n 60 0 I1 0 0 = some I1 := lev_f (n := n) (o := 0) (show f < 1000 by omega) f5 f2 5 0 53 rfl
    rw [bf_ e, ep, pz_bd_n, el, pz_bd_n, pass_f (by decide) (show f < 1000 by omega) f5 f2, pz_bd_n, y2, pz_bd_n]
    unfold f_X9_part_L8 f_X9_part_L19
    rw [if_neg (by rw [f6]; decide), if_neg (by rw [f6]; decide), l34_b f6]
    exact ⟨I1, J1, 0, rfl, rfl, y3, y4, Or.inr y6⟩
