/-! ===== the grammar's levels, opened ===== -/
/-- the signs that join at a level -/
def opb (L : Nat) (v : Int32) : Bool := if L = 0 then decide (v = 110) else if L = 1 then decide (v = 111) else if L = 2 then decide (v = 60) || decide (v = 61) else if L = 3 then decide (v = 43) || decide (v = 45) else decide (v = 42)
theorem b01_2 {P Q : Prop} [Decidable P] [Decidable Q] : (if P then some (1 : Int32) else if Q then some 1 else some 0) = some (b01 (decide P || decide Q)) := by
  by_cases hP : P
  · rw [if_pos hP, decide_eq_true hP]; rfl
  · rw [if_neg hP, decide_eq_false hP]
    by_cases hQ : Q
    · rw [if_pos hQ, decide_eq_true hQ]; rfl
    · rw [if_neg hQ, decide_eq_false hQ]; rfl
theorem b01_1 {P : Prop} [Decidable P] : (if P then some (1 : Int32) else some 0) = some (b01 (decide P)) := by
  by_cases hP : P
  · rw [if_pos hP, decide_eq_true hP]; rfl
  · rw [if_neg hP, decide_eq_false hP]; rfl
theorem joins_c {N n L : Nat} {I : mm_T} (hL : L < 5) : f_X3_joins N n I (nI L) = some (b01 (opb L (I 3 0 6))) := by
  unfold f_X3_joins opb
  rw [pz_lt_n]
  rcases (by omega : L = 0 ∨ L = 1 ∨ L = 2 ∨ L = 3 ∨ L = 4) with e | e | e | e | e <;> subst e
  · rw [if_pos (show nI 0 = 0 by decide), if_pos rfl]; exact b01_1
  · rw [if_neg (show ¬ nI 1 = 0 by decide), if_pos (show nI 1 = 1 by decide), if_neg (show ¬ 1 = 0 by decide), if_pos rfl]; exact b01_1
  · rw [if_neg (show ¬ nI 2 = 0 by decide), if_neg (show ¬ nI 2 = 1 by decide), if_pos (show nI 2 = 2 by decide), if_neg (show ¬ 2 = 0 by decide), if_neg (show ¬ 2 = 1 by decide), if_pos rfl]; exact b01_2
  · rw [if_neg (show ¬ nI 3 = 0 by decide), if_neg (show ¬ nI 3 = 1 by decide), if_neg (show ¬ nI 3 = 2 by decide), if_pos (show nI 3 = 3 by decide), if_neg (show ¬ 3 = 0 by decide), if_neg (show ¬ 3 = 1 by decide), if_neg (show ¬ 3 = 2 by decide), if_pos rfl]; exact b01_2
  · rw [if_neg (show ¬ nI 4 = 0 by decide), if_neg (show ¬ nI 4 = 1 by decide), if_neg (show ¬ nI 4 = 2 by decide), if_neg (show ¬ nI 4 = 3 by decide), if_neg (show ¬ 4 = 0 by decide), if_neg (show ¬ 4 = 1 by decide), if_neg (show ¬ 4 = 2 by decide), if_neg (show ¬ 4 = 3 by decide)]; exact b01_1
theorem lev_lo {N n d L o : Nat} {I : mm_T} (hL : L < 5) (h2 : L = 2 → ¬ I 3 0 6 = 112) : f_C3 N n (d + 1) 0 I (nI L) (nI o) = pz_bd (f_C3 N n d 0 I (nI (L + 1)) (nI o)) fun q => f_X3_readLevel_L55 N n (f_C3 N n d) (nI L) (nI o) N q (nI L) (nI o) (if L = 2 then 1 else 160) 0 := by
  have e31 : f_X3_readLevel_L31 N n (f_C3 N n d) (nI L) (nI o) I (nI L) (nI o) = pz_bd (f_C3 N n d 0 I (nI (L + 1)) (nI o)) fun q => f_X3_readLevel_L55 N n (f_C3 N n d) (nI L) (nI o) N q (nI L) (nI o) (if L = 2 then 1 else 160) 0 := by
    unfold f_X3_readLevel_L31
    rw [nI_1]
    refine congrArg (pz_bd _) (funext fun q => ?_)
    by_cases e : L = 2
    · subst e
      rw [if_pos (show nI 2 = 2 by decide), if_pos rfl]; rfl
    · rw [if_neg (show ¬ nI L = 2 from fun h => e ((nI_eqM (M := 2) (by omega) (by omega)).mp h)), if_neg e]; rfl
  rw [f_C3, if_pos rfl, f_X3_readLevel, if_pos (show nI L ≤ 4 by rw [i32_le, nI_int (by omega), show (4 : Int32).toInt = 4 by decide]; omega)]
  by_cases e : L = 2
  · rw [if_pos (show nI L = 2 by rw [e]; decide), if_neg (h2 e), e31]
  · rw [if_neg (show ¬ nI L = 2 from fun h => e ((nI_eqM (M := 2) (by omega) (by omega)).mp h)), e31]
theorem lev_not {N n d o : Nat} {I : mm_T} (h : I 3 0 6 = 112) : f_C3 N n (d + 2) 0 I (nI 2) (nI o) = f_X3_readNot N n (f_C3 N n d) I (nI o) := by
  rw [f_C3, if_pos rfl, f_X3_readLevel, if_pos (show nI 2 ≤ 4 by decide), if_pos (show nI 2 = 2 by decide), if_pos h, pz_bd_id, f_C3, if_neg (by decide), if_pos rfl]
theorem lev_5 {N n d o : Nat} {I : mm_T} : f_C3 N n (d + 2) 0 I (nI 5) (nI o) = f_X3_readOne N n (f_C3 N n d) I (nI o) := by
  rw [f_C3, if_pos rfl, f_X3_readLevel, if_neg (show ¬ nI 5 ≤ 4 by decide), pz_bd_id, f_C3, if_neg (by decide), if_neg (by decide)]
theorem lev_one {N n d o : Nat} {I : mm_T} : f_C3 N n (d + 1) 2 I (nI o) 0 = f_X3_readOne N n (f_C3 N n d) I (nI o) := by
  rw [f_C3, if_neg (by decide), if_neg (by decide)]
theorem r9_0 {N d : Nat} {J : mm_T} : f_M9e N (d + 1) 0 J = f_X9_atom N (f_M9e N d) J := by rw [f_M9e, if_pos rfl]
theorem r9_1 {N d : Nat} {J : mm_T} : f_M9e N (d + 1) 1 J = f_X9_term N (f_M9e N d) J := by rw [f_M9e, if_neg (by decide), if_pos rfl]
theorem r9_2 {N d : Nat} {J : mm_T} : f_M9e N (d + 1) 2 J = f_X9_added N (f_M9e N d) J := by rw [f_M9e, if_neg (by decide), if_neg (by decide), if_pos rfl]
theorem r9_3 {N d : Nat} {J : mm_T} : f_M9e N (d + 1) 3 J = f_X9_not N (f_M9e N d) J := by rw [f_M9e, if_neg (by decide), if_neg (by decide), if_neg (by decide), if_pos rfl]
theorem r9_4 {N d : Nat} {J : mm_T} : f_M9e N (d + 1) 4 J = f_X9_both N (f_M9e N d) J := by rw [f_M9e, if_neg (by decide), if_neg (by decide), if_neg (by decide), if_neg (by decide), if_pos rfl]
theorem r9_5 {N d : Nat} {J : mm_T} : f_M9e N (d + 1) 5 J = f_X9_either N (f_M9e N d) J := by rw [f_M9e, if_neg (by decide), if_neg (by decide), if_neg (by decide), if_neg (by decide), if_neg (by decide)]
theorem opb_2 : ∀ L, L < 5 → opb L 2 = false := by decide
/-- the class's loop where nothing joins -/
theorem l55_end {n L cnt : Nat} {rc : Nat → mm_T → Int32 → Int32 → Option mm_T} {p1 p2 a2 a3 a4 : Int32} {I : mm_T} (hL : L < 5) (h : opb L (I 3 0 6) = false) : f_X3_readLevel_L55 fu n rc p1 p2 (cnt + 1) I (nI L) a2 a3 a4 = some I := by
  rw [f_X3_readLevel_L55]
  by_cases c : a3 ≤ a4
  · rw [if_pos c]
  · rw [if_neg c, joins_c hL, h, pz_bd_n, if_pos (show b01 false = 0 from rfl)]
/-- where something has failed, the class reads no more -/
theorem one_f {n f : Nat} {rc : Nat → mm_T → Int32 → Int32 → Option mm_T} {I : mm_T} {o : Int32} (hf : f < 1000) (h6 : I 3 0 6 = 2) (h10 : I 3 0 10 = nI f) : f_X3_readOne fu n rc I o = some I := by
  unfold f_X3_readOne f_X3_isName f_X3_readOne_L83
  rw [h6, if_neg (show ¬ (2 : Int32) = 3 by decide), if_pos (show (2 : Int32) < 101 by decide), pz_bd_n, if_pos rfl, if_neg (show ¬ (2 : Int32) = 45 by decide), if_neg (show ¬ (2 : Int32) = 40 by decide), fail_c hf h6 h10, pz_bd_n]
theorem lev_f {n f o : Nat} {I : mm_T} (hf : f < 1000) (h6 : I 3 0 6 = 2) (h10 : I 3 0 10 = nI f) : ∀ (e L d : Nat), L + e = 5 → f_C3 fu n (d + 2 + e) 0 I (nI L) (nI o) = some I
  | 0, L, d, h => by
    have e : L = 5 := by omega
    subst e
    rw [show d + 2 + 0 = d + 2 from rfl, lev_5, one_f hf h6 h10]
  | e + 1, L, d, h => by
    have ih := lev_f (n := n) (o := o) hf h6 h10 e (L + 1) d (by omega)
    rw [show d + 2 + (e + 1) = (d + 2 + e) + 1 from rfl, lev_lo (by omega) (fun _ => by rw [h6]; decide), ih, pz_bd_n]
    show f_X3_readLevel_L55 fu n _ _ _ (999 + 1) I _ _ _ _ = _
    exact l55_end (by omega) (by rw [h6]; exact opb_2 L (by omega))
