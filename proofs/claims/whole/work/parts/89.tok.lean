/-! ===== a token of the class ===== -/
/-- what stands at p, and where it ends -/
def TC (B : Nat) (w : Nat → Int32) (p q : Nat) (ct cn : Int32) : Prop :=
  (p = B ∧ q = B ∧ ct = 1) ∨ (p < q ∧ q ≤ B ∧ (
    ((∀ x, p ≤ x → x < q → isd (w x) = true) ∧ (q < B → isd (w q) = false) ∧ ct = (if q - p ≤ 4 then 3 else 2) ∧ cn = nv w p (q - p)) ∨
    (∃ s, s ∈ sgs ∧ q = p + 1 ∧ w p = nI s ∧ ct = nI s) ∨
    ((∀ x, p ≤ x → x < q → isl (w x) = true) ∧ (q < B → isl (w q) = false) ∧ ∃ k, k < 13 ∧ ct = wt k ∧ ∀ k', 1 ≤ k' → k' < 13 → isw w p q k' = decide (k' = k)) ∨
    (q = p + 1 ∧ isl (w p) = false ∧ isd (w p) = false ∧ (∃ v, v < 256 ∧ w p = nI v ∧ sgs.contains v = false) ∧ ct = 2)))
set_option maxHeartbeats 4000000 in
theorem l60_c {n B p : Nat} {w : Nat → Int32} {I : mm_T} (hB : B ≤ 160) (hp : p ≤ B) (h1 : I 3 0 1 = nI B) (h8 : I 3 0 8 = nI p) (hw : ∀ j, j < B → I 18 0 j = w j ∧ ∃ v, v < 256 ∧ w j = nI v) : ∃ I' q, f_X3_readToken_L60 fu n I = some I' ∧ (∀ k, k ≠ 3 → I' k = I k) ∧ (∀ j, (j < 6 ∨ 9 < j) → I' 3 0 j = I 3 0 j) ∧ I' 3 0 8 = nI p ∧ I' 3 0 9 = nI q ∧ TC B w p q (I' 3 0 6) (I' 3 0 7) := by
  unfold f_X3_readToken_L60
  rw [h8, pz_lt_n]
  generalize hI7 : mm_up I 3 0 9 (nI p) = I7
  have a8 : I7 3 0 8 = nI p := by rw [← hI7, mm_get, if_neg (by omega)]; exact h8
  have a1 : I7 3 0 1 = nI B := by rw [← hI7, mm_get, if_neg (by omega)]; exact h1
  have a9 : I7 3 0 9 = nI p := by rw [← hI7, mm_get, if_pos ⟨rfl, rfl, rfl⟩]
  have ak : ∀ k, k ≠ 3 → I7 k = I k := fun k hk => by rw [← hI7, mm_up_ne hk]
  have aj : ∀ j, j ≠ 9 → I7 3 0 j = I 3 0 j := fun j hj => by rw [← hI7, mm_get, if_neg (fun q => hj q.2.2)]
  have aw : ∀ j, j < B → I7 18 0 j = w j := fun j hj => by rw [ak 18 (by decide)]; exact (hw j hj).1
  rw [a8, a1]
  by_cases c : p < B
  · rw [if_pos (show nI p < nI B from (nI_lt8 (by omega) (by omega)).mpr c), pz_gd_t (nI_ix (by omega) (by omega)), nI_cl (by omega), aw p c, letter_c, pz_bd_s]
    obtain ⟨v, hv, ev⟩ := (hw p c).2
    cases hl : isl (w p) with
    | true =>
      rw [if_neg (show ¬ b01 true = 0 by decide)]
      obtain ⟨q, q1, q2, q3, q4⟩ := run_ex (B := B) (fun x => isl (w x)) (B - p) p (by omega)
      have hpq : p < q := by
        rcases Nat.lt_or_ge p q with h | h
        · exact h
        · have e : q = p := by omega
          subst e
          have := q4 c
          rw [hl] at this; cases this
      have hr : f_X3_readWord fu n I7 = f_X3_readWord_L39 fu n (mm_up I7 3 0 9 (nI q)) := by
        unfold f_X3_readWord
        exact word_c hB q2 q4 (q - p) p fu I7 (by omega) (by show _ < 1000; omega) q3 a1 a9 aw
      obtain ⟨k, k1, k2, k3⟩ := wtok_c (n := n) (p := p) (q := q) (B := B) (I := mm_up I7 3 0 9 (nI q)) (w := w) (by rw [mm_get, if_neg (by omega)]; exact a8) (by rw [mm_get, if_pos ⟨rfl, rfl, rfl⟩]) q1 q2 hB (fun j hj => by rw [mm_up_ne (by decide)]; exact aw j hj)
      rw [hr, k2, pz_bd_s]
      refine ⟨_, q, rfl, fun k hk => by rw [mm_up_ne hk, mm_up_ne hk, ak k hk], fun j hj => by rw [mm_get, if_neg (by omega), mm_get, if_neg (by omega), aj j (by omega)], by rw [mm_get, if_neg (by omega), mm_get, if_neg (by omega)]; exact a8, by rw [mm_get, if_neg (by omega), mm_get, if_pos ⟨rfl, rfl, rfl⟩], Or.inr ⟨hpq, q2, Or.inr (Or.inr (Or.inl ⟨q3, q4, k, k1, by rw [mm_get, if_pos ⟨rfl, rfl, rfl⟩], k3⟩))⟩⟩
    | false =>
      rw [if_pos (show b01 false = 0 from rfl), pz_gd_t (nI_ix (by omega) (by omega)), digit_c, pz_bd_s]
      cases hd : isd (w p) with
      | true =>
        rw [if_neg (show ¬ b01 true = 0 by decide)]
        obtain ⟨q, q1, q2, q3, q4⟩ := run_ex (B := B) (fun x => isd (w x)) (B - p) p (by omega)
        have hpq : p < q := by
          rcases Nat.lt_or_ge p q with h | h
          · exact h
          · have e : q = p := by omega
            subst e
            have := q4 c
            rw [hd] at this; cases this
        obtain ⟨I', g1, g2, g3, g4, g5, g6⟩ := num_c (n := n) (p := p) hB q2 q4 (q - p) p fu (mm_up I7 3 0 7 0) (by omega) (Nat.le_refl _) (by show _ < 1000; omega) q3 (by rw [mm_get, if_neg (by omega)]; exact a1) (by rw [mm_get, if_neg (by omega)]; exact a9) (by rw [mm_get, if_pos ⟨rfl, rfl, rfl⟩, Nat.sub_self]; rfl) (by rw [mm_get, if_neg (by omega)]; exact a8) (fun j hj => by rw [mm_up_ne (by decide)]; exact aw j hj)
        have hr : f_X3_readNumber fu n I7 = some I' := by
          unfold f_X3_readNumber; rw [pz_lt_n]; exact g1
        rw [hr, pz_bd_s]
        refine ⟨I', q, rfl, fun k hk => by rw [g2 k hk, mm_up_ne hk, ak k hk], fun j hj => by rw [g3 j (by omega) (by omega) (by omega), mm_get, if_neg (by omega), aj j (by omega)], by rw [g3 8 (by omega) (by omega) (by omega), mm_get, if_neg (by omega)]; exact a8, g4, Or.inr ⟨hpq, q2, Or.inl ⟨q3, q4, g6, g5⟩⟩⟩
      | false =>
        have hix := jdk_ix v hv
        rw [if_pos (show b01 false = 0 from rfl), pz_gd_t (nI_ix (by omega) (by omega)), ev]
        cases hf : f_J0_indexOf_0f7a4 fu 13 (((nI v).toUInt32 % 65536).toInt32) with
        | none => rw [hf] at hix; cases hix
        | some r =>
          rw [hf] at hix
          have hr2 : decide (r < 0) = !(sgs.contains v) := by simpa using hix
          rw [pz_bd_s]
          simp only [pz_lt_n]
          by_cases hs : sgs.contains v = true
          · rw [hs] at hr2
            have hn : ¬ r < 0 := of_decide_eq_false hr2
            rw [if_neg hn, pz_gd_t (nI_ix (by omega) (by omega))]
            refine ⟨_, p + 1, rfl, fun k hk => by rw [mm_up_ne hk, mm_up_ne hk, ak k hk], fun j hj => by rw [mm_get, if_neg (by omega), mm_get, if_neg (by omega), aj j (by omega)], by rw [mm_get, if_neg (by omega), mm_get, if_neg (by omega)]; exact a8, by rw [mm_get, if_pos ⟨rfl, rfl, rfl⟩, mm_get, if_neg (by omega), a8, nI_1], Or.inr ⟨by omega, by omega, Or.inr (Or.inl ⟨v, List.contains_iff_mem.mp hs, rfl, ev, by rw [mm_get, if_neg (by omega), mm_get, if_pos ⟨rfl, rfl, rfl⟩]⟩)⟩⟩
          · rw [Bool.eq_false_iff.mpr hs] at hr2
            have hn : r < 0 := of_decide_eq_true hr2
            rw [if_pos hn]
            refine ⟨_, p + 1, rfl, fun k hk => by rw [mm_up_ne hk, mm_up_ne hk, ak k hk], fun j hj => by rw [mm_get, if_neg (by omega), mm_get, if_neg (by omega), aj j (by omega)], by rw [mm_get, if_neg (by omega), mm_get, if_neg (by omega)]; exact a8, by rw [mm_get, if_pos ⟨rfl, rfl, rfl⟩, mm_get, if_neg (by omega), a8, nI_1], Or.inr ⟨by omega, by omega, Or.inr (Or.inr (Or.inr ⟨rfl, hl, hd, ⟨v, hv, ev, Bool.eq_false_iff.mpr hs⟩, by rw [mm_get, if_neg (by omega), mm_get, if_pos ⟨rfl, rfl, rfl⟩]⟩))⟩⟩
  · rw [if_neg (show ¬ nI p < nI B from fun h => c ((nI_lt8 (by omega) (by omega)).mp h))]
    simp only [pz_lt_n]
    refine ⟨_, p, rfl, fun k hk => by rw [mm_up_ne hk, ak k hk], fun j hj => by rw [mm_get, if_neg (by omega), aj j (by omega)], by rw [mm_get, if_neg (by omega)]; exact a8, by rw [mm_get, if_neg (by omega)]; exact a9, Or.inl ⟨by omega, by omega, by rw [mm_get, if_pos ⟨rfl, rfl, rfl⟩]⟩⟩
