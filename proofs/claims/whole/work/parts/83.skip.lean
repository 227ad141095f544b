def bl (v : Int32) : Prop := v = 32 ∨ v = 10
theorem bl_ex {B : Nat} {w : Nat → Int32} : ∀ (d p : Nat), p + d = B → ∃ p', p ≤ p' ∧ p' ≤ B ∧ (∀ x, p ≤ x → x < p' → bl (w x)) ∧ (p' < B → ¬ bl (w p'))
  | 0, p, h => ⟨p, Nat.le_refl _, by omega, fun x _ _ => by omega, fun _ => by omega⟩
  | d + 1, p, h => by
    by_cases hb : bl (w p)
    · obtain ⟨p', h1, h2, h3, h4⟩ := bl_ex (B := B) (w := w) d (p + 1) (by omega)
      refine ⟨p', by omega, h2, fun x y1 y2 => ?_, h4⟩
      by_cases e : x = p
      · subst e; exact hb
      · exact h3 x (by omega) y2
    · exact ⟨p, Nat.le_refl _, by omega, fun x _ _ => by omega, fun _ => hb⟩
theorem mm_same {I : mm_T} {k i j : Nat} {v : Int32} (h : I k i j = v) : mm_up I k i j v = I := by
  funext a b c
  rw [mm_get]
  by_cases e : a = k ∧ b = i ∧ c = j
  · rw [if_pos e, e.1, e.2.1, e.2.2, h]
  · rw [if_neg e]
theorem mm_twice {I : mm_T} {k i j : Nat} {v u : Int32} : mm_up (mm_up I k i j v) k i j u = mm_up I k i j u := by
  funext a b c
  rw [mm_get, mm_get, mm_get]
  by_cases e : a = k ∧ b = i ∧ c = j
  · rw [if_pos e, if_pos e]
  · rw [if_neg e, if_neg e, if_neg e]
theorem skip_c {n B p' : Nat} {w : Nat → Int32} (hB : B ≤ 160) (hp' : p' ≤ B) (hend : p' < B → ¬ bl (w p')) : ∀ (d p cnt : Nat) (I : mm_T), p + d = p' → d < cnt → (∀ x, p ≤ x → x < p' → bl (w x)) → I 3 0 1 = nI B → I 3 0 8 = nI p → (∀ j, j < B → I 18 0 j = w j) → f_X3_readToken_L8 fu n cnt I = f_X3_readToken_L60 fu n (mm_up I 3 0 8 (nI p'))
  | 0, p, cnt + 1, I, hd, hc, hb, h1, h8, hw => by
    have e : p = p' := by omega
    subst e
    rw [mm_same h8]
    unfold f_X3_readToken_L8
    rw [h1, h8]
    by_cases c : B ≤ p
    · rw [if_pos (show nI B ≤ nI p by rw [i32_le, nI_int (by omega), nI_int (by omega)]; omega)]
    · have hn := hend (by omega)
      rw [if_neg (show ¬ nI B ≤ nI p by rw [i32_le, nI_int (by omega), nI_int (by omega)]; omega), pz_gd_t (nI_ix (by omega) (by omega)), nI_cl (by omega), hw p (by omega), if_neg (fun q => hn (Or.inl q)), pz_gd_t (nI_ix (by omega) (by omega)), if_neg (fun q => hn (Or.inr q))]
  | d + 1, p, cnt + 1, I, hd, hc, hb, h1, h8, hw => by
    have ih := skip_c (n := n) hB hp' hend d (p + 1) cnt (mm_up I 3 0 8 (nI (p + 1))) (by omega) (by omega) (fun x y1 y2 => hb x (by omega) y2) (by rw [mm_get, if_neg (by omega)]; exact h1) (by rw [mm_get, if_pos ⟨rfl, rfl, rfl⟩]) (fun j hj => by rw [mm_up_ne (by decide)]; exact hw j hj)
    rw [mm_twice] at ih
    unfold f_X3_readToken_L8 f_X3_readToken_L47
    rw [h1, h8, if_neg (show ¬ nI B ≤ nI p by rw [i32_le, nI_int (by omega), nI_int (by omega)]; omega), pz_gd_t (nI_ix (by omega) (by omega)), nI_cl (by omega), hw p (by omega), pz_lt_n, nI_1, pz_gd_t (nI_ix (by omega) (by omega)), ih]
    rcases hb p (Nat.le_refl _) (by omega) with e | e
    · rw [if_pos e]
    · rw [if_pos e]
      by_cases e2 : w p = 32
      · rw [if_pos e2]
      · rw [if_neg e2]
theorem BY.up {B Sz t : Nat} {w : Nat → Int32} {I J : mm_T} (h : BY B Sz t w I J) (v : Int32) {j : Nat} (h1 : j ≠ 23) (h2 : j ≠ 24) : BY B Sz t w I (mm_up J 9 0 j v) := by
  obtain ⟨a1, ⟨a2, a3, a4⟩, a5, a6⟩ := h
  refine ⟨a1, ⟨a2, ?_, ?_⟩, fun x hx => ?_, fun x y1 y2 => ?_⟩
  · rw [mm_get, if_neg (fun q => h2 q.2.2.symm)]; exact a3
  · rw [mm_get, if_neg (fun q => h1 q.2.2.symm)]; exact a4
  · rw [mm_up_ne (by decide)]; exact a5 x hx
  · rw [mm_up_ne (by decide)]; exact a6 x y1 y2
theorem skip9 {B Sz t pr : Nat} {w : Nat → Int32} {I : mm_T} (hpr : pr < 500) : ∀ (d p cnt : Nat) (J : mm_T), p + d = pr → BY B Sz t w I J → (∀ x, p ≤ x → x < pr → bl (bya B Sz w x)) → J 9 0 25 = nI p → f_X9_next_L0 fu (cnt + d) J = f_X9_next_L0 fu cnt (mm_up J 9 0 25 (nI pr))
  | 0, p, cnt, J, hd, hY, hb, h25 => by
    have e : p = pr := by omega
    subst e
    rw [mm_same h25]; rfl
  | d + 1, p, cnt, J, hd, hY, hb, h25 => by
    have ih := skip9 (B := B) (Sz := Sz) (t := t) (w := w) (I := I) hpr d (p + 1) cnt (mm_up J 9 0 25 (nI (p + 1))) (by omega) (hY.up _ (by decide) (by decide)) (fun x y1 y2 => hb x (by omega) y2) (by rw [mm_get, if_pos ⟨rfl, rfl, rfl⟩])
    rw [mm_twice] at ih
    rw [← ih, show cnt + (d + 1) = (cnt + d) + 1 by omega]
    conv => lhs; unfold f_X9_next_L0 f_X9_next_L26
    rw [h25, byte_r hY (by omega), pz_bd_s, pz_bd_s, pz_lt_n, nI_1]
    rcases hb p (Nat.le_refl _) (by omega) with e | e
    · rw [if_pos e]
    · by_cases e2 : bya B Sz w p = 32
      · rw [if_pos e2]
      · rw [if_neg e2, if_pos e]
