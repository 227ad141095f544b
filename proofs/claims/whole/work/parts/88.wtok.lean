/-! ===== which word ===== -/
def wdn (k k' : Nat) : Bool := decide (k = 0) || decide (k' = 0) || decide (k = k') || !decide ((wd k).length = (wd k').length) || (List.range (wd k).length).any fun j => !decide ((wd k).getD j 0 = (wd k').getD j 0)
theorem wdn_all : ∀ k, k < 13 → ∀ k', k' < 13 → wdn k k' = true := by decide +kernel
theorem wd_ne (k : Nat) (hk : k < 13) (hk1 : 1 ≤ k) (k' : Nat) (hk' : k' < 13) (hk1' : 1 ≤ k') (hne : k ≠ k') (hl : (wd k).length = (wd k').length) : ∃ j, j < (wd k).length ∧ (wd k).getD j 0 ≠ (wd k').getD j 0 := by
  have h := wdn_all k hk k' hk'
  unfold wdn at h
  rw [decide_eq_false (by omega), decide_eq_false (by omega), decide_eq_false hne, decide_eq_true hl] at h
  simp only [Bool.false_or, Bool.not_true] at h
  obtain ⟨j, h1, h2⟩ := List.any_eq_true.mp h
  refine ⟨j, List.mem_range.mp h1, fun e => ?_⟩
  rw [decide_eq_true e] at h2
  cases h2
theorem isw_one {w : Nat → Int32} {p q k k' : Nat} (hk : k < 13) (hk1 : 1 ≤ k) (hk' : k' < 13) (hk1' : 1 ≤ k') (h : isw w p q k = true) (hne : k' ≠ k) : isw w p q k' = false := by
  rw [Bool.eq_false_iff, ne_eq]
  intro h'
  obtain ⟨a1, a2⟩ := isw_iff.mp h
  obtain ⟨b1, b2⟩ := isw_iff.mp h'
  obtain ⟨j, j1, j2⟩ := wd_ne k hk hk1 k' hk' hk1' (fun e => hne e.symm) (by omega)
  have e := (a2 j j1).symm.trans (b2 j (by omega))
  have g1 := (jdk_chr k hk hk1 j j1).2.2
  have g2 := (jdk_chr k' hk' hk1' j (by omega)).2.2
  exact j2 ((nI_eqM (by omega) (by omega)).mp e)
def wt (k : Nat) : Int32 := if k = 0 then 2 else nI (100 + k)
theorem wtok_c {n p q B : Nat} {I : mm_T} {w : Nat → Int32} (hp : I 3 0 8 = nI p) (hq : I 3 0 9 = nI q) (hpq : p ≤ q) (hqB : q ≤ B) (hB : B ≤ 160) (hw : ∀ j, j < B → I 18 0 j = w j) : ∃ k, k < 13 ∧ f_X3_readWord_L39 fu n I = some (mm_up I 3 0 6 (wt k)) ∧ ∀ k', 1 ≤ k' → k' < 13 → isw w p q k' = decide (k' = k) := by
  have sp : ∀ k, k < 13 → 1 ≤ k → f_X3_spells fu n I k = some (b01 (isw w p q k)) := fun k h1 h2 => spell_c h1 h2 hp hq hpq hqB hB hw
  have yes : ∀ k, k < 13 → 1 ≤ k → isw w p q k = true → ∀ k', 1 ≤ k' → k' < 13 → isw w p q k' = decide (k' = k) := fun k h1 h2 h k' g1 g2 => by
    by_cases e : k' = k
    · subst e; rw [h, decide_eq_true rfl]
    · rw [isw_one h1 h2 g2 g1 h e, decide_eq_false e]
  unfold f_X3_readWord_L39
  simp only [pz_lt_n]
  rw [sp 1 (by omega) (by omega), pz_bd_s]
  by_cases c1 : isw w p q 1 = true
  · rw [c1, if_neg (show ¬ b01 true = 0 by decide)]
    exact ⟨1, by omega, rfl, yes 1 (by omega) (by omega) c1⟩
  rw [if_pos (b01_f c1)]
  rw [sp 2 (by omega) (by omega), pz_bd_s]
  by_cases c2 : isw w p q 2 = true
  · rw [c2, if_neg (show ¬ b01 true = 0 by decide)]
    exact ⟨2, by omega, rfl, yes 2 (by omega) (by omega) c2⟩
  rw [if_pos (b01_f c2)]
  rw [sp 3 (by omega) (by omega), pz_bd_s]
  by_cases c3 : isw w p q 3 = true
  · rw [c3, if_neg (show ¬ b01 true = 0 by decide)]
    exact ⟨3, by omega, rfl, yes 3 (by omega) (by omega) c3⟩
  rw [if_pos (b01_f c3)]
  rw [sp 4 (by omega) (by omega), pz_bd_s]
  by_cases c4 : isw w p q 4 = true
  · rw [c4, if_neg (show ¬ b01 true = 0 by decide)]
    exact ⟨4, by omega, rfl, yes 4 (by omega) (by omega) c4⟩
  rw [if_pos (b01_f c4)]
  rw [sp 5 (by omega) (by omega), pz_bd_s]
  by_cases c5 : isw w p q 5 = true
  · rw [c5, if_neg (show ¬ b01 true = 0 by decide)]
    exact ⟨5, by omega, rfl, yes 5 (by omega) (by omega) c5⟩
  rw [if_pos (b01_f c5)]
  rw [sp 6 (by omega) (by omega), pz_bd_s]
  by_cases c6 : isw w p q 6 = true
  · rw [c6, if_neg (show ¬ b01 true = 0 by decide)]
    exact ⟨6, by omega, rfl, yes 6 (by omega) (by omega) c6⟩
  rw [if_pos (b01_f c6)]
  rw [sp 7 (by omega) (by omega), pz_bd_s]
  by_cases c7 : isw w p q 7 = true
  · rw [c7, if_neg (show ¬ b01 true = 0 by decide)]
    exact ⟨7, by omega, rfl, yes 7 (by omega) (by omega) c7⟩
  rw [if_pos (b01_f c7)]
  rw [sp 8 (by omega) (by omega), pz_bd_s]
  by_cases c8 : isw w p q 8 = true
  · rw [c8, if_neg (show ¬ b01 true = 0 by decide)]
    exact ⟨8, by omega, rfl, yes 8 (by omega) (by omega) c8⟩
  rw [if_pos (b01_f c8)]
  rw [sp 9 (by omega) (by omega), pz_bd_s]
  by_cases c9 : isw w p q 9 = true
  · rw [c9, if_neg (show ¬ b01 true = 0 by decide)]
    exact ⟨9, by omega, rfl, yes 9 (by omega) (by omega) c9⟩
  rw [if_pos (b01_f c9)]
  rw [sp 10 (by omega) (by omega), pz_bd_s]
  by_cases c10 : isw w p q 10 = true
  · rw [c10, if_neg (show ¬ b01 true = 0 by decide)]
    exact ⟨10, by omega, rfl, yes 10 (by omega) (by omega) c10⟩
  rw [if_pos (b01_f c10)]
  rw [sp 11 (by omega) (by omega), pz_bd_s]
  by_cases c11 : isw w p q 11 = true
  · rw [c11, if_neg (show ¬ b01 true = 0 by decide)]
    exact ⟨11, by omega, rfl, yes 11 (by omega) (by omega) c11⟩
  rw [if_pos (b01_f c11)]
  rw [sp 12 (by omega) (by omega), pz_bd_s]
  by_cases c12 : isw w p q 12 = true
  · rw [c12, if_neg (show ¬ b01 true = 0 by decide)]
    exact ⟨12, by omega, rfl, yes 12 (by omega) (by omega) c12⟩
  rw [if_pos (b01_f c12)]
  refine ⟨0, by omega, rfl, fun k' g1 g2 => ?_⟩
  rw [decide_eq_false (by omega), Bool.eq_false_iff]
  rcases (by omega : k' = 1 ∨ k' = 2 ∨ k' = 3 ∨ k' = 4 ∨ k' = 5 ∨ k' = 6 ∨ k' = 7 ∨ k' = 8 ∨ k' = 9 ∨ k' = 10 ∨ k' = 11 ∨ k' = 12) with e | e | e | e | e | e | e | e | e | e | e | e <;> subst e <;> assumption
