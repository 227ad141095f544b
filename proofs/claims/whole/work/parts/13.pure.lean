/-! ===== words of pure code ===== -/
def pz_lt {α β : Type} (a : α) (f : α → β) : β := f a
def pz_gd {α : Type} (c : Bool) (x : Option α) : Option α := if c = true then x else none
def pz_bd {α β : Type} (x : Option α) (f : α → Option β) : Option β := match x with
  | none => none
  | some y => f y
theorem pz_lt_e {α β : Type} {a x : α} {f : α → β} {z : β} (h : pz_lt a f = z) (e : x = a) : f x = z := by subst e; exact h
theorem pz_gd_e {α : Type} {c : Bool} {x : Option α} {z : α} (h : pz_gd c x = some z) : c = true ∧ x = some z := by
  unfold pz_gd at h
  by_cases hc : c = true
  · rw [if_pos hc] at h; exact ⟨hc, h⟩
  · rw [if_neg hc] at h; cases h
theorem pz_bd_e {α β : Type} {x : Option α} {f : α → Option β} {z : β} (h : pz_bd x f = some z) : ∃ y, x = some y ∧ f y = some z := by
  cases x with
  | none => cases h
  | some y => exact ⟨y, rfl, h⟩
theorem pz_t {α : Type} {c : Prop} [Decidable c] {a b z : α} (hc : c) (h : (if c then a else b) = z) : a = z := by rw [if_pos hc] at h; exact h
theorem pz_f {α : Type} {c : Prop} [Decidable c] {a b z : α} (hc : ¬ c) (h : (if c then a else b) = z) : b = z := by rw [if_neg hc] at h; exact h
def pz_z (v : Int32) : Bool := decide (v &&& 1 = v)
theorem pz_zn {v : Int32} (h : pz_z v = true) : narrow .boolean (.int v) = .int v := by
  unfold pz_z at h
  have h := of_decide_eq_true h
  simp only [narrow, h]
theorem ix_lt {x : Int32} {n : Nat} (h : ix_in x n = true) : x.toNatClampNeg < n := by
  unfold ix_in at h
  have h := of_decide_eq_true h
  exact Nat.not_le.mp fun q => h (Or.inr q)
theorem el_16 {i : Nat} {x : Int32} (h : i < 2) (g : ix_in x 8 = true) : 8 * i + x.toNatClampNeg < 16 := by have := ix_lt g; omega
theorem el_17 {i : Nat} {x : Int32} (h : i < 2) (g : ix_in x 7 = true) : 7 * i + x.toNatClampNeg < 14 := by have := ix_lt g; omega
theorem el_21 {x : Int32} (g : ix_in x 8 = true) : x.toNatClampNeg + 1 < 9 := by have := ix_lt g; omega
theorem ly_tx_ne {G : cx_T} {v : Int32} (h : ¬ v = -1) : ly_tx G v = .ref (cx_b G + ly_loc 7 v.toNatClampNeg) := if_neg h
theorem pz_neT {x k : Int32} (h : ¬ x = k) : x.toInt ≠ k.toInt := fun e => h (Int32.toInt_inj.mp e)
/-- outside a table: the value is none of those that stand in it -/
theorem pz_out {x : Int32} (lo hi : Int) (ks : List Int32) (hk : (List.range (hi - lo + 1).toNat).all (fun j => ks.any (fun k => k.toInt == lo + (j : Int))) = true) (h : ∀ k ∈ ks, ¬ x = k) : x.toInt < lo ∨ hi < x.toInt := by
  rcases Int.lt_or_le x.toInt lo with h1 | h1
  · exact Or.inl h1
  · rcases Int.lt_or_le hi x.toInt with h2 | h2
    · exact Or.inr h2
    · exfalso
      have hj : (x.toInt - lo).toNat < (hi - lo + 1).toNat := by omega
      have h3 := List.all_eq_true.mp hk (x.toInt - lo).toNat (List.mem_range.mpr hj)
      obtain ⟨k, hm, he⟩ := List.any_eq_true.mp h3
      have he := eq_of_beq he
      exact pz_neT (h k hm) (by omega)
section RM
variable {p : Program} {l : Launch} {e : Env} {R : Room} {s : State} {m : MethodId} {args : Array Value} {below : List Frame} {meth : Method} {c : Code} {H : Heap} {locs : List Loc} {cells slots : Nat} {Q : State → Prop}
variable {cc : ByteArray} {pc : Nat} {ls : Array Slot} {rest : List Value} {G : cx_T} {n nL : Nat} {I J : mm_T} {own : String} {ret : Option FieldType}
theorem mq_max : Cond.static Lib.Math.max.name ∈ gw_t ∧ Cond.initialized "java/lang/Math" ∈ gw_t ∧ Cond.code Lib.Math.max.name Lib.Math.max.code 2 (some .int) ∈ gw_t := ⟨gw_mem 435 (by decide +kernel) (by decide +kernel), gw_mem 74 (by decide +kernel) (by decide +kernel), gw_mem 436 (by decide +kernel) (by decide +kernel)⟩
theorem r_max (X : cx_ok G p s m args meth c cc nL own ret) (S : st_ok G n I J s H locs) (hls : ls.size = nL) {idx : Nat} (hk : Cond.methodLink own idx Lib.Math.max.name ∈ gw_t) (hf : 1 ≤ R.frames) (hlo : (rest.map fun v => v.category).sum + 13 ≤ R.locals) {x y : Int32} (hd : decode cc pc = .ok (.invokestatic idx, 3))
    (kk : W p l e R s m args below meth c H locs 0 0 Q (F0 m (pc + 3) ls (.int (if x < y then y else x) :: rest))) : W p l e R s m args below meth c H locs 0 0 Q (F0 m pc ls (.int y :: .int x :: rest)) :=
  va_mmax X.1 X.2.1 (X.2.2.1.trans hls.symm) X.2.2.2.1 (X.2.2.2.2.1 _ hk) (X.2.2.2.2.1 _ mq_max.1) (X.2.2.2.2.1 _ mq_max.2.1) (X.2.2.2.2.1 _ mq_max.2.2) hf hlo (Nat.zero_le _) (Nat.zero_le _) hd kk
theorem mq_min : Cond.static Lib.Math.min.name ∈ gw_t ∧ Cond.initialized "java/lang/Math" ∈ gw_t ∧ Cond.code Lib.Math.min.name Lib.Math.min.code 2 (some .int) ∈ gw_t := ⟨gw_mem 438 (by decide +kernel) (by decide +kernel), gw_mem 74 (by decide +kernel) (by decide +kernel), gw_mem 439 (by decide +kernel) (by decide +kernel)⟩
theorem r_min (X : cx_ok G p s m args meth c cc nL own ret) (S : st_ok G n I J s H locs) (hls : ls.size = nL) {idx : Nat} (hk : Cond.methodLink own idx Lib.Math.min.name ∈ gw_t) (hf : 1 ≤ R.frames) (hlo : (rest.map fun v => v.category).sum + 13 ≤ R.locals) {x y : Int32} (hd : decode cc pc = .ok (.invokestatic idx, 3))
    (kk : W p l e R s m args below meth c H locs 0 0 Q (F0 m (pc + 3) ls (.int (if y < x then y else x) :: rest))) : W p l e R s m args below meth c H locs 0 0 Q (F0 m pc ls (.int y :: .int x :: rest)) :=
  va_mmin X.1 X.2.1 (X.2.2.1.trans hls.symm) X.2.2.2.1 (X.2.2.2.2.1 _ hk) (X.2.2.2.2.1 _ mq_min.1) (X.2.2.2.2.1 _ mq_min.2.1) (X.2.2.2.2.1 _ mq_min.2.2) hf hlo (Nat.zero_le _) (Nat.zero_le _) hd kk
end RM
theorem mk_J1_38 : Cond.methodLink RJ1 38 Lib.Math.min.name ∈ gw_t := gw_mem 437 (by decide +kernel) (by decide +kernel)
theorem mk_J1_92 : Cond.methodLink RJ1 92 Lib.Math.max.name ∈ gw_t := gw_mem 434 (by decide +kernel) (by decide +kernel)
theorem mk_J2_183 : Cond.methodLink RJ2 183 Lib.Math.min.name ∈ gw_t := gw_mem 447 (by decide +kernel) (by decide +kernel)
theorem mk_J2_224 : Cond.methodLink RJ2 224 Lib.Math.max.name ∈ gw_t := gw_mem 446 (by decide +kernel) (by decide +kernel)
theorem mk_J7_304 : Cond.methodLink RJ7 304 Lib.Math.min.name ∈ gw_t := gw_mem 525 (by decide +kernel) (by decide +kernel)
theorem mk_X0_143 : Cond.methodLink RX0 143 Lib.Math.max.name ∈ gw_t := gw_mem 732 (by decide +kernel) (by decide +kernel)
theorem mk_X8_250 : Cond.methodLink RX8 250 Lib.Math.min.name ∈ gw_t := gw_mem 709 (by decide +kernel) (by decide +kernel)
theorem mk_X8_255 : Cond.methodLink RX8 255 Lib.Math.max.name ∈ gw_t := gw_mem 710 (by decide +kernel) (by decide +kernel)
