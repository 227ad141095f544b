/-! ===== what holds of the tables and of what lay in the heap before ===== -/
def cx_strs : List (String × Nat × String) := [("WhoSingsNext", 54, "bears 10 ; takes 2 + mood ; first waited - sung * 9 ;"), ("WhoSingsNext$Reader", 107, "minute"), ("WhoSingsNext$Reader", 113, "waited"), ("WhoSingsNext$Reader", 115, "sung"), ("WhoSingsNext$Reader", 117, "sort"), ("WhoSingsNext$Reader", 119, "bar"), ("WhoSingsNext$Reader", 121, "mood"), ("WhoSingsNext$Reader", 123, "bears"), ("WhoSingsNext$Reader", 125, "takes"), ("WhoSingsNext$Reader", 127, "first"), ("WhoSingsNext$Reader", 129, "or"), ("WhoSingsNext$Reader", 131, "and"), ("WhoSingsNext$Reader", 133, "not"), ("WhoSingsNext$Reader", 99, "();+-*<=")]
def cx_len : List Nat := [53, 6, 6, 4, 4, 3, 4, 5, 5, 5, 2, 3, 3, 8]
def cx_byt : List (List Int32) := [[98, 101, 97, 114, 115, 32, 49, 48, 32, 59, 32, 116, 97, 107, 101, 115, 32, 50, 32, 43, 32, 109, 111, 111, 100, 32, 59, 32, 102, 105, 114, 115, 116, 32, 119, 97, 105, 116, 101, 100, 32, 45, 32, 115, 117, 110, 103, 32, 42, 32, 57, 32, 59], [109, 105, 110, 117, 116, 101], [119, 97, 105, 116, 101, 100], [115, 117, 110, 103], [115, 111, 114, 116], [98, 97, 114], [109, 111, 111, 100], [98, 101, 97, 114, 115], [116, 97, 107, 101, 115], [102, 105, 114, 115, 116], [111, 114], [97, 110, 100], [110, 111, 116], [40, 41, 59, 43, 45, 42, 60, 61]]
def nw_is : Cond → Bool
  | .fieldLinkNest .. => true
  | .methodLinkNest .. => true
  | _ => false
def nw_t : List Cond := lw_tbl.filter nw_is
theorem nw_mem {w : Cond} (k : Nat) (h : lw_tbl[k]? = some w) (g : nw_is w = true) : w ∈ nw_t := List.mem_filter.mpr ⟨List.mem_of_getElem? h, g⟩
theorem nw_warm {w : Cond} {s U : State} (h : w ∈ nw_t) (hW : s.WarmedH U.vm) (hZ : va_Nw w s) : va_Nw w U := by
  have hi := (List.mem_filter.mp h).2
  cases w <;> first | exact hZ.warmF hW | exact hZ.warmM hW | (exact absurd hi (by simp [nw_is]))
theorem nw_same {w : Cond} {u U : State} (h : w ∈ nw_t) (hv : u.vm = U.vm) (hZ : va_Nw w u) : va_Nw w U := by
  have hi := (List.mem_filter.mp h).2
  cases w <;> first | exact va_Nw.same rfl hv hZ | (exact absurd hi (by simp [nw_is]))
def cx_Kx (G : cx_T) (U : State) : Prop := va_K (cx_D G) vwCl (cx_t G) U ∧ vk_S 14 cx_len cx_byt (cx_K G) (cx_V G) (fun q => cx_b G ≤ q) U U.heap ∧ (∀ (i : Nat) (r : String × Nat × String), cx_strs[i]? = some r → vk_R r.1 r.2.1 r.2.2 (cx_K G i) U) ∧ va_Z "java/lang/String" "COMPACT_STRINGS" "Z" (.int 1) (fun q => cx_b G ≤ q) U U.heap ∧ va_Zq "jdk/internal/util/Preconditions" "SIOOBE_FORMATTER" "Ljava/util/function/BiFunction;" (fun q => cx_b G ≤ q) U U.heap ∧ ∀ w ∈ nw_t, va_Nw w U
theorem cx_Kx.at {G : cx_T} {s U : State} {H : Heap} {locs : List Loc} (h : cx_Kx G s) (hS : va_S (fun q => cx_b G ≤ q) s.heap H locs) (hU : U.heap = H) (hW : s.WarmedH U.vm) : cx_Kx G U := by
  obtain ⟨h1, h2, h3, h4, h5, h6⟩ := h
  refine ⟨va_K.moved hW.alike h1, ?_, fun i r hr => (h3 i r hr).warm hW, ?_, ?_, fun w hw => nw_warm hw hW (h6 w hw)⟩
  · rw [hU]; exact vk_S.moved hW.alike (h2.kept hS.2.1)
  · rw [hU]; exact va_Z.moved hW.alike (h4.kept hS.2.1)
  · rw [hU]; exact va_Zq.moved hW.alike (h5.kept hS.2.1)
theorem cx_Kx.call {G : cx_T} {U : State} {g : JFrame} {mk : MethodId} {a : Array Value} (h : cx_Kx G U) : cx_Kx G (U.calling g mk a) := by
  obtain ⟨h1, h2, h3, h4, h5, h6⟩ := h
  exact ⟨va_K.moved (u := U) (U := U.calling g mk a) (Vm.Alike.refl U.vm) h1, vk_S.moved (u := U) (U := U.calling g mk a) (Vm.Alike.refl U.vm) h2, fun i r hr => vk_R.same (u := U) (U := U.calling g mk a) rfl (h3 i r hr), va_Z.moved (u := U) (U := U.calling g mk a) (Vm.Alike.refl U.vm) h4, va_Zq.moved (u := U) (U := U.calling g mk a) (Vm.Alike.refl U.vm) h5, fun w hw => nw_same (u := U) (U := U.calling g mk a) hw rfl (h6 w hw)⟩
/-- a method's frame: the machine, its code, the tables -/
def cx_ok (G : cx_T) (p : Program) (s : State) (m : MethodId) (args : Array Value) (meth : Method) (c : Code) (cc : ByteArray) (nL : Nat) (own : String) (ret : Option FieldType) : Prop :=
  p.tables.exec = Jvm.exec ∧ c.code = cc ∧ c.maxLocals = nL ∧ s.vm.findClass own = some m.cls ∧ (∀ w ∈ gw_t, w.before args s = true) ∧ cx_Kx G s ∧ meth.sig.returnType = ret ∧ meth.locks = false
/-- the world at a place of the walk -/
def st_ok (G : cx_T) (n : Nat) (I J : mm_T) (s : State) (H : Heap) (locs : List Loc) : Prop :=
  va_P (cx_D G) vwCl (gm_W (cx_b G) n (ly_cell G (mm_mx I J))) H ∧ s.heap.size = cx_b G + n ∧ va_S (fun q => cx_b G ≤ q) s.heap H locs ∧ 111 ≤ n
def wd_ok (G : cx_T) (n : Nat) (I J : mm_T) (U : State) : Prop := va_P (cx_D G) vwCl (gm_W (cx_b G) n (ly_cell G (mm_mx I J))) U.heap ∧ U.heap.size = cx_b G + n ∧ 111 ≤ n
def wd_pre (G : cx_T) (n : Nat) (I J : mm_T) (U : State) : Prop := wd_ok G n I J U ∧ cx_Kx G U
abbrev cx_A (G : cx_T) : Nat → Prop := fun q => cx_b G ≤ q
def ct_qv (G : cx_T) (n : Nat) (I J : mm_T) : Array Value → State → Outcome → State → Prop := va_Qv (fun _ : Unit => True) (fun _ => wd_ok G n I J) (cx_A G)
def ct_qi (G : cx_T) (n : Nat) (I J : mm_T) (r : Int32) : Array Value → State → Outcome → State → Prop := va_Qi (fun (x : Int32) (_ : Unit) => x = r) (fun _ => wd_ok G n I J) (cx_A G)
def ct_ql (G : cx_T) (n : Nat) (I J : mm_T) (r : Int64) : Array Value → State → Outcome → State → Prop := va_Ql (fun (x : Int64) (_ : Unit) => x = r) (fun _ => wd_ok G n I J) (cx_A G)
def ct_qr (G : cx_T) (n : Nat) (I J : mm_T) (a : Nat) : Array Value → State → Outcome → State → Prop := va_Qr (fun _ : Unit => True) (fun _ x t => x = a ∧ wd_ok G n I J t) (cx_A G)
/-- a contract: from memory (I, J) with these arguments to the end Qc -/
def ct_m (l : Launch) (G : cx_T) (n : Nat) (y : MethodName) (cc : ByteArray) (ml : Nat) (ret : Option FieldType) (rm : Room) (av : List Value) (I J : mm_T) (Qc : Array Value → State → Outcome → State → Prop) : Prop :=
  Met l y (.code y cc ml ret :: gw_t) rm (va_Pc av (wd_pre G n I J)) Qc 0 0 (cx_A G)
theorem wd_blind {G : cx_T} {n : Nat} {I J : mm_T} {av : List Value} : FrameBlind (va_Pc av (wd_pre G n I J)) := fun a U g mk q => ⟨q.1, q.2.1, q.2.2.call⟩
theorem ct_en {l : Launch} {G : cx_T} {n : Nat} {y : MethodName} {cc : ByteArray} {ml : Nat} {ret : Option FieldType} {rm : Room} {av : List Value} {I J : mm_T} {Qc : Array Value → State → Outcome → State → Prop} (hy : plainName y.cls = true) (hav : (lg_sl av).length ≤ ml)
    (body : ∀ (p : Program) (e : Env) (s : State) (m : MethodId) (args : Array Value) (below : List Frame) (meth : Method) (c : Code) (ls : Array Slot), cx_ok G p s m args meth c cc ml y.cls ret → st_ok G n I J s s.heap [] → lv_has ls ml (lv_args 0 av) → W p l e rm s m args below meth c s.heap [] 0 0 (MQ below Qc args s 0 0 (cx_A G)) (F0 m 0 ls [])) : ct_m l G n y cc ml ret rm av I J Qc := by
  unfold ct_m
  refine Met.ofW (cc := cc) (maxL := ml) (ret := ret) hy rfl ?_
  intro p e s m args below meth c s₁ B hml hv
  obtain ⟨rfl, ⟨hP, hsz, hn⟩, hK⟩ := hv
  have hts := atoms_spec (ws := .code y cc ml ret :: gw_t) B.pre
  have hl := lv_entry av (n := ml) hav
  rw [lg_entry_eq]
  exact body p e s m av.toArray below meth c _ ⟨B.exec, B.bytes, hml, findClass_of_methodNamed B.named, fun w h => hts w (List.mem_cons_of_mem _ h), hK, B.returns, B.notSynchronized⟩ ⟨hP, hsz, va_S.rf, hn⟩ hl
section RW
variable {p : Program} {l : Launch} {e : Env} {R : Room} {s : State} {m : MethodId} {args : Array Value} {below : List Frame} {meth : Method} {c : Code} {H : Heap} {locs : List Loc} {cells slots : Nat} {Q : State → Prop}
variable {cc : ByteArray} {pc : Nat} {ls : Array Slot} {rest : List Value} {G : cx_T} {n nL : Nat} {I J : mm_T} {own : String} {ret : Option FieldType}
theorem r_size {g : JFrame} (kk : s.heap.size ≤ H.size → H.size ≤ s.heap.size + cells → W p l e R s m args below meth c H locs cells slots Q g) : W p l e R s m args below meth c H locs cells slots Q g := fun T hT X => kk (by rw [← hT]; exact X.same.2.1) (by rw [← hT]; exact X.same.2.2.1) T hT X
theorem st_ok.wd (S : st_ok G n I J s H locs) (h1 : s.heap.size ≤ H.size) (h2 : H.size ≤ s.heap.size + 0) {t : State} (ht : t.heap = H) : wd_ok G n I J t := ⟨by rw [ht]; exact S.1, by rw [ht]; have := S.2.1; omega, S.2.2.2⟩
theorem st_ok.wb {t : State} (S : st_ok G n I J s H locs) {I' J' : mm_T} {H1 : Heap} {locs1 : List Loc} (h : wd_ok G n I' J' t) (ht : t.heap = H1) (hS : va_S (cx_A G) s.heap H1 locs1) : st_ok G n I' J' s H1 locs1 := ⟨by rw [← ht]; exact h.1, S.2.1, hS, h.2.2⟩
theorem st_ok.pre (X : cx_ok G p s m args meth c cc nL own ret) (S : st_ok G n I J s H locs) (h1 : s.heap.size ≤ H.size) (h2 : H.size ≤ s.heap.size + 0) {U : State} (hU : U.heap = H) (hW : s.WarmedH U.vm) : wd_pre G n I J U := ⟨S.wd h1 h2 hU, X.2.2.2.2.2.1.at S.2.2.1 hU hW⟩
/-! ends -/
theorem r_vret (X : cx_ok G p s m args meth c cc nL own none) (S : st_ok G n I J s H locs) (hd : decode cc pc = .ok (.return_, 1)) : W p l e R s m args below meth c H locs 0 0 (MQ below (ct_qv G n I J) args s 0 0 (cx_A G)) (F0 m pc ls []) :=
  r_size (fun h1 h2 => W.vret X.1 X.2.1 X.2.2.2.2.2.2.1 (fun t ht hW => ⟨⟨(), rfl, trivial, S.wd h1 h2 ht⟩, S.2.2.1.F ht⟩) S.2.2.1.2.2 hd X.2.2.2.2.2.2.2)
theorem r_iret (X : cx_ok G p s m args meth c cc nL own (some .int)) (S : st_ok G n I J s H locs) {v : Int32} (hd : decode cc pc = .ok (.ireturn, 1)) : W p l e R s m args below meth c H locs 0 0 (MQ below (ct_qi G n I J v) args s 0 0 (cx_A G)) (F0 m pc ls [.int v]) :=
  r_size (fun h1 h2 => W.iret X.1 X.2.1 X.2.2.2.2.2.2.1 (fun t ht hW => ⟨⟨v, (), rfl, rfl, S.wd h1 h2 ht⟩, S.2.2.1.F ht⟩) S.2.2.1.2.2 hd X.2.2.2.2.2.2.2)
theorem r_zret (X : cx_ok G p s m args meth c cc nL own (some .boolean)) (S : st_ok G n I J s H locs) {v : Int32} (hv : narrow .boolean (.int v) = .int v) (hd : decode cc pc = .ok (.ireturn, 1)) : W p l e R s m args below meth c H locs 0 0 (MQ below (ct_qi G n I J v) args s 0 0 (cx_A G)) (F0 m pc ls [.int v]) :=
  r_size (fun h1 h2 => W.zret X.1 X.2.1 X.2.2.2.2.2.2.1 hv (fun t ht hW => ⟨⟨v, (), rfl, rfl, S.wd h1 h2 ht⟩, S.2.2.1.F ht⟩) S.2.2.1.2.2 hd X.2.2.2.2.2.2.2)
theorem r_lret (X : cx_ok G p s m args meth c cc nL own (some .long)) (S : st_ok G n I J s H locs) {v : Int64} (hd : decode cc pc = .ok (.lreturn, 1)) : W p l e R s m args below meth c H locs 0 0 (MQ below (ct_ql G n I J v) args s 0 0 (cx_A G)) (F0 m pc ls [.long v]) :=
  r_size (fun h1 h2 => W.lret X.1 X.2.1 X.2.2.2.2.2.2.1 (fun t ht hW => ⟨⟨v, (), rfl, rfl, S.wd h1 h2 ht⟩, S.2.2.1.F ht⟩) S.2.2.1.2.2 hd X.2.2.2.2.2.2.2)
theorem r_aret {C : String} (X : cx_ok G p s m args meth c cc nL own (some (.object C))) (S : st_ok G n I J s H locs) {a : Nat} (hd : decode cc pc = .ok (.areturn, 1)) : W p l e R s m args below meth c H locs 0 0 (MQ below (ct_qr G n I J a) args s 0 0 (cx_A G)) (F0 m pc ls [.ref a]) :=
  r_size (fun h1 h2 => W.aret X.1 X.2.1 X.2.2.2.2.2.2.1 (Or.inl ⟨_, rfl⟩) (Or.inr ⟨_, rfl⟩) (fun t ht hW => ⟨⟨(), a, rfl, trivial, rfl, S.wd h1 h2 ht⟩, S.2.2.1.F ht⟩) S.2.2.1.2.2 hd X.2.2.2.2.2.2.2)
/-! fields -/
theorem r_get (X : cx_ok G p s m args meth c cc nL own ret) (S : st_ok G n I J s H locs) {k i ci idx : Nat} (ho : ly_ok n k i) {fs : List Value} (hf : ly_K G k i (mm_mx I J k i) = .inr (ci, fs)) {C : String} {T : u_T} {N : Nat} (hc : vwCl[ci]? = some (C, T, N)) (hin : ∀ w ∈ u_ws C T N, w ∈ gw_t) (j : Nat) (hj : j < N) (hw : Cond.fieldLink own idx (T j).1 (T j).2.1 (T j).2.2.1 ∈ gw_t) {v : Value} (hv : fs[j]? = some v) (hd : decode cc pc = .ok (.getfield idx, 3))
    (kk : W p l e R s m args below meth c H locs cells slots Q (F0 m (pc + 3) ls (v :: rest))) : W p l e R s m args below meth c H locs cells slots Q (F0 m pc ls (.ref (cx_b G + ly_loc k i) :: rest)) :=
  va_get (D := cx_D G) (ci := ci) (v := v) (C := C) (T := T) (N := N) X.1 X.2.1 X.2.2.2.2.1 hin X.2.2.2.1 X.2.2.2.2.2.1.1 S.1 (ly_loc k i) (by rw [ly_get ho, hf]) hc j hj (X.2.2.2.2.1 _ hw) (fun _ h => h) hv hd kk
theorem r_getN (X : cx_ok G p s m args meth c cc nL own ret) (S : st_ok G n I J s H locs) {k i ci idx : Nat} {host : String} (ho : ly_ok n k i) {fs : List Value} (hf : ly_K G k i (mm_mx I J k i) = .inr (ci, fs)) {C : String} {T : u_T} {N : Nat} (hc : vwCl[ci]? = some (C, T, N)) (hin : ∀ w ∈ u_ws C T N, w ∈ gw_t) (j : Nat) (hj : j < N) (hw : Cond.fieldLinkNest own idx (T j).1 (T j).2.1 (T j).2.2.1 host ∈ nw_t) {v : Value} (hv : fs[j]? = some v) (hd : decode cc pc = .ok (.getfield idx, 3))
    (kk : W p l e R s m args below meth c H locs cells slots Q (F0 m (pc + 3) ls (v :: rest))) : W p l e R s m args below meth c H locs cells slots Q (F0 m pc ls (.ref (cx_b G + ly_loc k i) :: rest)) :=
  va_getN (D := cx_D G) (ci := ci) (v := v) (C := C) (T := T) (N := N) X.1 X.2.1 X.2.2.2.2.1 hin X.2.2.2.1 X.2.2.2.2.2.1.1 S.1 (ly_loc k i) (by rw [ly_get ho, hf]) hc j hj ((X.2.2.2.2.2.1.2.2.2.2.2 _ hw).use rfl) (fun _ h => h) hv hd kk
theorem st_rowI (S : st_ok G n I J s H locs) {k i : Nat} (hm : mm_m k = false) {f : Nat → Int32} {H1 : Heap} {locs1 : List Loc} (hP : va_P (cx_D G) vwCl (gm_W (cx_b G) n (ly_cell G (mm_row (mm_mx I J) k i f))) H1) (hS : va_S (cx_A G) s.heap H1 locs1) : st_ok G n (mm_row I k i f) J s H1 locs1 := ⟨by rw [mm_mx_rowI hm]; exact hP, S.2.1, hS, S.2.2.2⟩
theorem st_rowJ (S : st_ok G n I J s H locs) {k i : Nat} (hm : mm_m k = true) {f : Nat → Int32} {H1 : Heap} {locs1 : List Loc} (hP : va_P (cx_D G) vwCl (gm_W (cx_b G) n (ly_cell G (mm_row (mm_mx I J) k i f))) H1) (hS : va_S (cx_A G) s.heap H1 locs1) : st_ok G n I (mm_row J k i f) s H1 locs1 := ⟨by rw [mm_mx_rowJ hm]; exact hP, S.2.1, hS, S.2.2.2⟩
theorem r_putI (X : cx_ok G p s m args meth c cc nL own ret) (S : st_ok G n I J s H locs) {k i ci idx : Nat} (ho : ly_ok n k i) (hm : mm_m k = false) {fs : List Value} (hf : ly_K G k i (mm_mx I J k i) = .inr (ci, fs)) {C : String} {T : u_T} {N : Nat} {ty0 : Nat → FieldType} (hc : vwCl[ci]? = some (C, T, N)) (hin : ∀ w ∈ u_ws C T N, w ∈ gw_t) (hty : ∀ k, k < N → parseFieldDescriptor (T k).2.2.1 = some (ty0 k)) (hnm : ∀ a, a < N → ∀ b, b < N → a ≠ b → (T a).2.1 ≠ (T b).2.1) (j : Nat) (hj : j < N) (hw : Cond.fieldLink own idx (T j).1 (T j).2.1 (T j).2.2.1 ∈ gw_t ∨ ∃ host, Cond.fieldLinkNest own idx (T j).1 (T j).2.1 (T j).2.2.1 host ∈ nw_t) (hfin : (T j).2.2.2 = false) {v : Value} {x : Int32} (hn : narrow (ty0 j) v = v) (hfit : fits (ty0 j) v = true) (hl : j < fs.length) (hu : ly_K G k i (upd (mm_mx I J k i) j x) = .inr (ci, fs.set j v)) (hd : decode cc pc = .ok (.putfield idx, 3))
    (kk : ∀ (I1 : mm_T) (H1 : Heap) (locs1 : List Loc), I1 = mm_up I k i j x → st_ok G n I1 J s H1 locs1 → W p l e R s m args below meth c H1 locs1 cells slots Q (F0 m (pc + 3) ls rest)) : W p l e R s m args below meth c H locs cells slots Q (F0 m pc ls (v :: .ref (cx_b G + ly_loc k i) :: rest)) := by
  rcases hw with hw | ⟨host, hw⟩
  · refine va_put (D := cx_D G) (ci := ci) (v := v) (ty := ty0 j) (C := C) (T := T) (N := N) X.1 X.2.1 X.2.2.2.2.1 hin ty0 hty hnm X.2.2.2.1 X.2.2.2.2.2.1.1 S.1 gm_D S.2.2.1 (ly_loc k i) (by rw [ly_get ho, hf]) hc j hj (X.2.2.2.2.1 _ hw) (fun _ h => h) hfin (hty j hj) hn hfit hl hd (fun H1 locs1 hP _ hS => ?_)
    rw [ly_set ho hu] at hP
    refine kk _ H1 locs1 rfl (st_rowI S hm ?_ hS)
    rw [mm_mx_I hm] at hP
    exact hP
  · refine va_putN (D := cx_D G) (ci := ci) (v := v) (ty := ty0 j) (C := C) (T := T) (N := N) X.1 X.2.1 X.2.2.2.2.1 hin ty0 hty hnm X.2.2.2.1 X.2.2.2.2.2.1.1 S.1 gm_D S.2.2.1 (ly_loc k i) (by rw [ly_get ho, hf]) hc j hj ((X.2.2.2.2.2.1.2.2.2.2.2 _ hw).use rfl) (fun _ h => h) hfin (hty j hj) hn hfit hl hd (fun H1 locs1 hP _ hS => ?_)
    rw [ly_set ho hu] at hP
    refine kk _ H1 locs1 rfl (st_rowI S hm ?_ hS)
    rw [mm_mx_I hm] at hP
    exact hP
theorem r_putJ (X : cx_ok G p s m args meth c cc nL own ret) (S : st_ok G n I J s H locs) {k i ci idx : Nat} (ho : ly_ok n k i) (hm : mm_m k = true) {fs : List Value} (hf : ly_K G k i (mm_mx I J k i) = .inr (ci, fs)) {C : String} {T : u_T} {N : Nat} {ty0 : Nat → FieldType} (hc : vwCl[ci]? = some (C, T, N)) (hin : ∀ w ∈ u_ws C T N, w ∈ gw_t) (hty : ∀ k, k < N → parseFieldDescriptor (T k).2.2.1 = some (ty0 k)) (hnm : ∀ a, a < N → ∀ b, b < N → a ≠ b → (T a).2.1 ≠ (T b).2.1) (j : Nat) (hj : j < N) (hw : Cond.fieldLink own idx (T j).1 (T j).2.1 (T j).2.2.1 ∈ gw_t) (hfin : (T j).2.2.2 = false) {v : Value} {x : Int32} (hn : narrow (ty0 j) v = v) (hfit : fits (ty0 j) v = true) (hl : j < fs.length) (hu : ly_K G k i (upd (mm_mx I J k i) j x) = .inr (ci, fs.set j v)) (hd : decode cc pc = .ok (.putfield idx, 3))
    (kk : ∀ (J1 : mm_T) (H1 : Heap) (locs1 : List Loc), J1 = mm_up J k i j x → st_ok G n I J1 s H1 locs1 → W p l e R s m args below meth c H1 locs1 cells slots Q (F0 m (pc + 3) ls rest)) : W p l e R s m args below meth c H locs cells slots Q (F0 m pc ls (v :: .ref (cx_b G + ly_loc k i) :: rest)) := by
  refine va_put (D := cx_D G) (ci := ci) (v := v) (ty := ty0 j) (C := C) (T := T) (N := N) X.1 X.2.1 X.2.2.2.2.1 hin ty0 hty hnm X.2.2.2.1 X.2.2.2.2.2.1.1 S.1 gm_D S.2.2.1 (ly_loc k i) (by rw [ly_get ho, hf]) hc j hj (X.2.2.2.2.1 _ hw) (fun _ h => h) hfin (hty j hj) hn hfit hl hd (fun H1 locs1 hP _ hS => ?_)
  rw [ly_set ho hu] at hP
  refine kk _ H1 locs1 rfl (st_rowJ S hm ?_ hS)
  rw [mm_mx_J hm] at hP
  exact hP
/-! arrays -/
def ix_in (i : Int32) (n : Nat) : Bool := decide (¬ (i < 0 ∨ n ≤ i.toNatClampNeg))
theorem ix_vp {i : Int32} {n : Nat} (h : ix_in i n = true) : vp_in i n := by unfold ix_in at h; unfold vp_in; exact of_decide_eq_true h
theorem r_iald (X : cx_ok G p s m args meth c cc nL own ret) (S : st_ok G n I J s H locs) {k i N : Nat} {f : Nat → Int32} (ho : ly_ok n k i) (hf : ly_K G k i (mm_mx I J k i) = .inl (cx_c G 0, N, .inl f)) {x : Int32} (hx : ix_in x N = true) (hd : decode cc pc = .ok (.iaload, 1))
    (kk : W p l e R s m args below meth c H locs cells slots Q (F0 m (pc + 1) ls (.int (f x.toNatClampNeg) :: rest))) : W p l e R s m args below meth c H locs cells slots Q (F0 m pc ls (.int x :: .ref (cx_b G + ly_loc k i) :: rest)) :=
  va_iald X.1 X.2.1 X.2.2.2.2.2.1.1 S.1 (ly_loc k i) 0 (by rw [ly_get ho, hf]) rfl (ix_vp hx) hd kk
theorem r_zald (X : cx_ok G p s m args meth c cc nL own ret) (S : st_ok G n I J s H locs) {k i N : Nat} {f : Nat → Int32} (ho : ly_ok n k i) (hf : ly_K G k i (mm_mx I J k i) = .inl (cx_c G 1, N, .inl f)) {x : Int32} (hx : ix_in x N = true) (hd : decode cc pc = .ok (.baload, 1))
    (kk : W p l e R s m args below meth c H locs cells slots Q (F0 m (pc + 1) ls (.int (f x.toNatClampNeg) :: rest))) : W p l e R s m args below meth c H locs cells slots Q (F0 m pc ls (.int x :: .ref (cx_b G + ly_loc k i) :: rest)) :=
  va_zald X.1 X.2.1 X.2.2.2.2.2.1.1 S.1 (ly_loc k i) 1 (by rw [ly_get ho, hf]) rfl (ix_vp hx) hd kk
theorem r_aald (X : cx_ok G p s m args meth c cc nL own ret) (S : st_ok G n I J s H locs) {k i N t0 : Nat} {C : String} {f : Nat → Option Nat} (ho : ly_ok n k i) (hf : ly_K G k i (mm_mx I J k i) = .inl (cx_c G t0, N, .inr (.inr (.inr (.inr f))))) (ht : (cx_t G)[t0]? = some (cx_c G t0, .object C)) {x : Int32} (hx : ix_in x N = true) {a : Nat} (ha : f x.toNatClampNeg = some a) (hd : decode cc pc = .ok (.aaload, 1))
    (kk : W p l e R s m args below meth c H locs cells slots Q (F0 m (pc + 1) ls (.ref a :: rest))) : W p l e R s m args below meth c H locs cells slots Q (F0 m pc ls (.int x :: .ref (cx_b G + ly_loc k i) :: rest)) :=
  va_aldq X.1 X.2.1 X.2.2.2.2.2.1.1 S.1 (ly_loc k i) t0 (by rw [ly_get ho, hf]) ht (ix_vp hx) hd (by rw [ha]; exact kk)
theorem r_alen (X : cx_ok G p s m args meth c cc nL own ret) (S : st_ok G n I J s H locs) {k i : Nat} {x : vp_A} (ho : ly_ok n k i) (hf : ly_K G k i (mm_mx I J k i) = .inl (cx_c G 0, x)) {v : Int32} (hv : Int32.ofNat x.1 = v) (hd : decode cc pc = .ok (.arraylength, 1))
    (kk : W p l e R s m args below meth c H locs cells slots Q (F0 m (pc + 1) ls (.int v :: rest))) : W p l e R s m args below meth c H locs cells slots Q (F0 m pc ls (.ref (cx_b G + ly_loc k i) :: rest)) :=
  va_alen X.1 X.2.1 X.2.2.2.2.2.1.1 S.1 (ly_loc k i) 0 (by rw [ly_get ho, hf]) (ty := .int) rfl hv hd kk
theorem r_iastI (X : cx_ok G p s m args meth c cc nL own ret) (S : st_ok G n I J s H locs) {k i N : Nat} (ho : ly_ok n k i) (hm : mm_m k = false) (hf : ∀ f : Nat → Int32, ly_K G k i f = .inl (cx_c G 0, N, .inl f)) {x y : Int32} (hx : ix_in x N = true) (hd : decode cc pc = .ok (.iastore, 1))
    (kk : ∀ (I1 : mm_T) (H1 : Heap) (locs1 : List Loc), I1 = mm_up I k i x.toNatClampNeg y → st_ok G n I1 J s H1 locs1 → W p l e R s m args below meth c H1 locs1 cells slots Q (F0 m (pc + 1) ls rest)) : W p l e R s m args below meth c H locs cells slots Q (F0 m pc ls (.int y :: .int x :: .ref (cx_b G + ly_loc k i) :: rest)) := by
  refine va_iast X.1 X.2.1 X.2.2.2.2.2.1.1 S.1 gm_D S.2.2.1 (ly_loc k i) 0 (by rw [ly_get ho, hf]) rfl (ix_vp hx) hd (fun H1 locs1 hP _ hS => ?_)
  rw [ly_set ho (hf _)] at hP
  refine kk _ H1 locs1 rfl (st_rowI S hm ?_ hS)
  rw [mm_mx_I hm] at hP
  exact hP
theorem r_iastJ (X : cx_ok G p s m args meth c cc nL own ret) (S : st_ok G n I J s H locs) {k i N : Nat} (ho : ly_ok n k i) (hm : mm_m k = true) (hf : ∀ f : Nat → Int32, ly_K G k i f = .inl (cx_c G 0, N, .inl f)) {x y : Int32} (hx : ix_in x N = true) (hd : decode cc pc = .ok (.iastore, 1))
    (kk : ∀ (J1 : mm_T) (H1 : Heap) (locs1 : List Loc), J1 = mm_up J k i x.toNatClampNeg y → st_ok G n I J1 s H1 locs1 → W p l e R s m args below meth c H1 locs1 cells slots Q (F0 m (pc + 1) ls rest)) : W p l e R s m args below meth c H locs cells slots Q (F0 m pc ls (.int y :: .int x :: .ref (cx_b G + ly_loc k i) :: rest)) := by
  refine va_iast X.1 X.2.1 X.2.2.2.2.2.1.1 S.1 gm_D S.2.2.1 (ly_loc k i) 0 (by rw [ly_get ho, hf]) rfl (ix_vp hx) hd (fun H1 locs1 hP _ hS => ?_)
  rw [ly_set ho (hf _)] at hP
  refine kk _ H1 locs1 rfl (st_rowJ S hm ?_ hS)
  rw [mm_mx_J hm] at hP
  exact hP
theorem r_zastJ (X : cx_ok G p s m args meth c cc nL own ret) (S : st_ok G n I J s H locs) {k i N : Nat} (ho : ly_ok n k i) (hm : mm_m k = true) (hf : ∀ f : Nat → Int32, ly_K G k i f = .inl (cx_c G 1, N, .inl f)) {x y : Int32} (hx : ix_in x N = true) (hd : decode cc pc = .ok (.bastore, 1))
    (kk : ∀ (J1 : mm_T) (H1 : Heap) (locs1 : List Loc), J1 = mm_up J k i x.toNatClampNeg (vp_nar .boolean y) → st_ok G n I J1 s H1 locs1 → W p l e R s m args below meth c H1 locs1 cells slots Q (F0 m (pc + 1) ls rest)) : W p l e R s m args below meth c H locs cells slots Q (F0 m pc ls (.int y :: .int x :: .ref (cx_b G + ly_loc k i) :: rest)) := by
  refine va_zast X.1 X.2.1 X.2.2.2.2.2.1.1 S.1 gm_D S.2.2.1 (ly_loc k i) 1 (by rw [ly_get ho, hf]) rfl (ix_vp hx) hd (fun H1 locs1 hP _ hS => ?_)
  rw [ly_set ho (hf _)] at hP
  refine kk _ H1 locs1 rfl (st_rowJ S hm ?_ hS)
  rw [mm_mx_J hm] at hP
  exact hP
theorem r_recv (X : cx_ok G p s m args meth c cc nL own ret) (S : st_ok G n I J s H locs) {k i ci : Nat} (ho : ly_ok n k i) {fs : List Value} (hf : ly_K G k i (mm_mx I J k i) = .inr (ci, fs)) {C : String} {T : u_T} {N : Nat} (hc : vwCl[ci]? = some (C, T, N)) : ∃ cell : Cell, H[cx_b G + ly_loc k i]? = some cell ∧ cell.vm.isStatics = false ∧ s.vm.findClass C = some cell.cls :=
  va_recv (q := (C, T, N)) X.2.2.2.2.2.1.1 S.1 hc (by rw [ly_get ho, hf])
theorem r_Vv (X : cx_ok G p s m args meth c cc nL own ret) (S : st_ok G n I J s H locs) {y : MethodName} {cy : ByteArray} {ml : Nat} {ry : Option FieldType} {rm : Room} {a : Nat} {As : List Value} {I1 J1 : mm_T} (hM : ct_m l G n y cy ml ry rm (.ref a :: As) I J (ct_qv G n I1 J1)) {C : String} {idx np : Nat} (hG : GoodIn gw_t (wsV own idx C y (.code y cy ml ry :: gw_t))) (hy : y.cls = C ∧ y.cls ≠ "java/lang/invoke/MethodHandle" ∧ y.cls ≠ "java/lang/invoke/VarHandle" ∧ (parseMethodDescriptor y.desc).map (fun d => d.parameters.length) = some np) (hrc : rm.cells = 0 ∧ rm.slots = 0) (hR : rm.frames + 1 ≤ R.frames ∧ 8 + (ml + 11) + rm.locals ≤ R.locals) (hrec : ∃ cell : Cell, H[a]? = some cell ∧ cell.vm.isStatics = false ∧ s.vm.findClass C = some cell.cls) (hn : As.length = np) {st0 : List Value} (hst : st0 = As.reverse ++ .ref a :: rest) (hls : ls.size = nL) (hro : (rest.map fun v => v.category).sum ≤ 8) (hd : decode cc pc = .ok (.invokevirtual idx, 3))
    (kk : ∀ (H1 : Heap) (locs1 : List Loc), st_ok G n I1 J1 s H1 locs1 → W p l e R s m args below meth c H1 locs1 0 0 Q (F0 m (pc + 3) ls (rest))) : W p l e R s m args below meth c H locs 0 0 Q (F0 m pc ls st0) := by
  subst hst
  refine r_size (fun h1 h2 => ?_)
  refine va_callv (va_runV (As := As) (rest := rest) ⟨X.1, X.2.1, X.2.2.1, X.2.2.2.1, X.2.2.2.2.1⟩ hM (cwV np X.2.2.2.2.1 hG rfl hrc.1 hrc.2 hy hR) ⟨wd_blind, hrec, fun U hU hW => ⟨rfl, S.pre X h1 h2 hU hW⟩⟩ rfl hn hls rfl (lv_room hro) hd ⟨Nat.zero_le _, Nat.zero_le _⟩) S.2.2.1 (fun _ _ h => h) (fun _ h => h) (fun u t H1 locs1 ht hvm hw hB hz1 hk1 hS => ?_)
  exact kk H1 locs1 (S.wb hB ht hS)
theorem r_Sv (X : cx_ok G p s m args meth c cc nL own ret) (S : st_ok G n I J s H locs) {y : MethodName} {cy : ByteArray} {ml : Nat} {ry : Option FieldType} {rm : Room} {As : List Value} {I1 J1 : mm_T} (hM : ct_m l G n y cy ml ry rm As I J (ct_qv G n I1 J1)) {idx np : Nat} (hG : GoodIn gw_t (va_wsS own idx y (.code y cy ml ry :: gw_t))) (hy : y.cls ≠ "java/lang/invoke/MethodHandle" ∧ y.cls ≠ "java/lang/invoke/VarHandle" ∧ (parseMethodDescriptor y.desc).map (fun d => d.parameters.length) = some np) (hrc : rm.cells = 0 ∧ rm.slots = 0) (hR : rm.frames + 1 ≤ R.frames ∧ 8 + (ml + 11) + rm.locals ≤ R.locals) (hn : As.length = np) {st0 : List Value} (hst : st0 = As.reverse ++ rest) (hls : ls.size = nL) (hro : (rest.map fun v => v.category).sum ≤ 8) (hd : decode cc pc = .ok (.invokestatic idx, 3))
    (kk : ∀ (H1 : Heap) (locs1 : List Loc), st_ok G n I1 J1 s H1 locs1 → W p l e R s m args below meth c H1 locs1 0 0 Q (F0 m (pc + 3) ls (rest))) : W p l e R s m args below meth c H locs 0 0 Q (F0 m pc ls st0) := by
  subst hst
  refine r_size (fun h1 h2 => ?_)
  refine va_callv (va_runS (As := As) (rest := rest) ⟨X.1, X.2.1, X.2.2.1, X.2.2.2.1, X.2.2.2.2.1⟩ hM (va_cwS np X.2.2.2.2.1 hG rfl hrc.1 hrc.2 hy hR) ⟨wd_blind, fun U hU hW => ⟨rfl, S.pre X h1 h2 hU hW⟩⟩ rfl hn hls rfl (lv_room hro) hd ⟨Nat.zero_le _, Nat.zero_le _⟩) S.2.2.1 (fun _ _ h => h) (fun _ h => h) (fun u t H1 locs1 ht hvm hw hB hz1 hk1 hS => ?_)
  exact kk H1 locs1 (S.wb hB ht hS)
theorem r_Vi (X : cx_ok G p s m args meth c cc nL own ret) (S : st_ok G n I J s H locs) {y : MethodName} {cy : ByteArray} {ml : Nat} {ry : Option FieldType} {rm : Room} {a : Nat} {As : List Value} {I1 J1 : mm_T} {r : Int32} (hM : ct_m l G n y cy ml ry rm (.ref a :: As) I J (ct_qi G n I1 J1 r)) {C : String} {idx np : Nat} (hG : GoodIn gw_t (wsV own idx C y (.code y cy ml ry :: gw_t))) (hy : y.cls = C ∧ y.cls ≠ "java/lang/invoke/MethodHandle" ∧ y.cls ≠ "java/lang/invoke/VarHandle" ∧ (parseMethodDescriptor y.desc).map (fun d => d.parameters.length) = some np) (hrc : rm.cells = 0 ∧ rm.slots = 0) (hR : rm.frames + 1 ≤ R.frames ∧ 8 + (ml + 11) + rm.locals ≤ R.locals) (hrec : ∃ cell : Cell, H[a]? = some cell ∧ cell.vm.isStatics = false ∧ s.vm.findClass C = some cell.cls) (hn : As.length = np) {st0 : List Value} (hst : st0 = As.reverse ++ .ref a :: rest) (hls : ls.size = nL) (hro : (rest.map fun v => v.category).sum ≤ 8) (hd : decode cc pc = .ok (.invokevirtual idx, 3))
    (kk : ∀ (H1 : Heap) (locs1 : List Loc), st_ok G n I1 J1 s H1 locs1 → W p l e R s m args below meth c H1 locs1 0 0 Q (F0 m (pc + 3) ls (.int r :: rest))) : W p l e R s m args below meth c H locs 0 0 Q (F0 m pc ls st0) := by
  subst hst
  refine r_size (fun h1 h2 => ?_)
  refine va_calli (va_runV (As := As) (rest := rest) ⟨X.1, X.2.1, X.2.2.1, X.2.2.2.1, X.2.2.2.2.1⟩ hM (cwV np X.2.2.2.2.1 hG rfl hrc.1 hrc.2 hy hR) ⟨wd_blind, hrec, fun U hU hW => ⟨rfl, S.pre X h1 h2 hU hW⟩⟩ rfl hn hls rfl (lv_room hro) hd ⟨Nat.zero_le _, Nat.zero_le _⟩) S.2.2.1 (fun _ _ h => h) (fun _ h => h) (fun rr u t H1 locs1 ht hvm hw hB hz1 hk1 hS => ?_)
  subst hw; exact kk H1 locs1 (S.wb hB ht hS)
theorem r_Si (X : cx_ok G p s m args meth c cc nL own ret) (S : st_ok G n I J s H locs) {y : MethodName} {cy : ByteArray} {ml : Nat} {ry : Option FieldType} {rm : Room} {As : List Value} {I1 J1 : mm_T} {r : Int32} (hM : ct_m l G n y cy ml ry rm As I J (ct_qi G n I1 J1 r)) {idx np : Nat} (hG : GoodIn gw_t (va_wsS own idx y (.code y cy ml ry :: gw_t))) (hy : y.cls ≠ "java/lang/invoke/MethodHandle" ∧ y.cls ≠ "java/lang/invoke/VarHandle" ∧ (parseMethodDescriptor y.desc).map (fun d => d.parameters.length) = some np) (hrc : rm.cells = 0 ∧ rm.slots = 0) (hR : rm.frames + 1 ≤ R.frames ∧ 8 + (ml + 11) + rm.locals ≤ R.locals) (hn : As.length = np) {st0 : List Value} (hst : st0 = As.reverse ++ rest) (hls : ls.size = nL) (hro : (rest.map fun v => v.category).sum ≤ 8) (hd : decode cc pc = .ok (.invokestatic idx, 3))
    (kk : ∀ (H1 : Heap) (locs1 : List Loc), st_ok G n I1 J1 s H1 locs1 → W p l e R s m args below meth c H1 locs1 0 0 Q (F0 m (pc + 3) ls (.int r :: rest))) : W p l e R s m args below meth c H locs 0 0 Q (F0 m pc ls st0) := by
  subst hst
  refine r_size (fun h1 h2 => ?_)
  refine va_calli (va_runS (As := As) (rest := rest) ⟨X.1, X.2.1, X.2.2.1, X.2.2.2.1, X.2.2.2.2.1⟩ hM (va_cwS np X.2.2.2.2.1 hG rfl hrc.1 hrc.2 hy hR) ⟨wd_blind, fun U hU hW => ⟨rfl, S.pre X h1 h2 hU hW⟩⟩ rfl hn hls rfl (lv_room hro) hd ⟨Nat.zero_le _, Nat.zero_le _⟩) S.2.2.1 (fun _ _ h => h) (fun _ h => h) (fun rr u t H1 locs1 ht hvm hw hB hz1 hk1 hS => ?_)
  subst hw; exact kk H1 locs1 (S.wb hB ht hS)
theorem r_Vl (X : cx_ok G p s m args meth c cc nL own ret) (S : st_ok G n I J s H locs) {y : MethodName} {cy : ByteArray} {ml : Nat} {ry : Option FieldType} {rm : Room} {a : Nat} {As : List Value} {I1 J1 : mm_T} {r : Int64} (hM : ct_m l G n y cy ml ry rm (.ref a :: As) I J (ct_ql G n I1 J1 r)) {C : String} {idx np : Nat} (hG : GoodIn gw_t (wsV own idx C y (.code y cy ml ry :: gw_t))) (hy : y.cls = C ∧ y.cls ≠ "java/lang/invoke/MethodHandle" ∧ y.cls ≠ "java/lang/invoke/VarHandle" ∧ (parseMethodDescriptor y.desc).map (fun d => d.parameters.length) = some np) (hrc : rm.cells = 0 ∧ rm.slots = 0) (hR : rm.frames + 1 ≤ R.frames ∧ 8 + (ml + 11) + rm.locals ≤ R.locals) (hrec : ∃ cell : Cell, H[a]? = some cell ∧ cell.vm.isStatics = false ∧ s.vm.findClass C = some cell.cls) (hn : As.length = np) {st0 : List Value} (hst : st0 = As.reverse ++ .ref a :: rest) (hls : ls.size = nL) (hro : (rest.map fun v => v.category).sum ≤ 8) (hd : decode cc pc = .ok (.invokevirtual idx, 3))
    (kk : ∀ (H1 : Heap) (locs1 : List Loc), st_ok G n I1 J1 s H1 locs1 → W p l e R s m args below meth c H1 locs1 0 0 Q (F0 m (pc + 3) ls (.long r :: rest))) : W p l e R s m args below meth c H locs 0 0 Q (F0 m pc ls st0) := by
  subst hst
  refine r_size (fun h1 h2 => ?_)
  refine va_calll (va_runV (As := As) (rest := rest) ⟨X.1, X.2.1, X.2.2.1, X.2.2.2.1, X.2.2.2.2.1⟩ hM (cwV np X.2.2.2.2.1 hG rfl hrc.1 hrc.2 hy hR) ⟨wd_blind, hrec, fun U hU hW => ⟨rfl, S.pre X h1 h2 hU hW⟩⟩ rfl hn hls rfl (lv_room hro) hd ⟨Nat.zero_le _, Nat.zero_le _⟩) S.2.2.1 (fun _ _ h => h) (fun _ h => h) (fun rr u t H1 locs1 ht hvm hw hB hz1 hk1 hS => ?_)
  subst hw; exact kk H1 locs1 (S.wb hB ht hS)
theorem r_Sl (X : cx_ok G p s m args meth c cc nL own ret) (S : st_ok G n I J s H locs) {y : MethodName} {cy : ByteArray} {ml : Nat} {ry : Option FieldType} {rm : Room} {As : List Value} {I1 J1 : mm_T} {r : Int64} (hM : ct_m l G n y cy ml ry rm As I J (ct_ql G n I1 J1 r)) {idx np : Nat} (hG : GoodIn gw_t (va_wsS own idx y (.code y cy ml ry :: gw_t))) (hy : y.cls ≠ "java/lang/invoke/MethodHandle" ∧ y.cls ≠ "java/lang/invoke/VarHandle" ∧ (parseMethodDescriptor y.desc).map (fun d => d.parameters.length) = some np) (hrc : rm.cells = 0 ∧ rm.slots = 0) (hR : rm.frames + 1 ≤ R.frames ∧ 8 + (ml + 11) + rm.locals ≤ R.locals) (hn : As.length = np) {st0 : List Value} (hst : st0 = As.reverse ++ rest) (hls : ls.size = nL) (hro : (rest.map fun v => v.category).sum ≤ 8) (hd : decode cc pc = .ok (.invokestatic idx, 3))
    (kk : ∀ (H1 : Heap) (locs1 : List Loc), st_ok G n I1 J1 s H1 locs1 → W p l e R s m args below meth c H1 locs1 0 0 Q (F0 m (pc + 3) ls (.long r :: rest))) : W p l e R s m args below meth c H locs 0 0 Q (F0 m pc ls st0) := by
  subst hst
  refine r_size (fun h1 h2 => ?_)
  refine va_calll (va_runS (As := As) (rest := rest) ⟨X.1, X.2.1, X.2.2.1, X.2.2.2.1, X.2.2.2.2.1⟩ hM (va_cwS np X.2.2.2.2.1 hG rfl hrc.1 hrc.2 hy hR) ⟨wd_blind, fun U hU hW => ⟨rfl, S.pre X h1 h2 hU hW⟩⟩ rfl hn hls rfl (lv_room hro) hd ⟨Nat.zero_le _, Nat.zero_le _⟩) S.2.2.1 (fun _ _ h => h) (fun _ h => h) (fun rr u t H1 locs1 ht hvm hw hB hz1 hk1 hS => ?_)
  subst hw; exact kk H1 locs1 (S.wb hB ht hS)
theorem r_Vr (X : cx_ok G p s m args meth c cc nL own ret) (S : st_ok G n I J s H locs) {y : MethodName} {cy : ByteArray} {ml : Nat} {ry : Option FieldType} {rm : Room} {a : Nat} {As : List Value} {I1 J1 : mm_T} {r : Nat} (hM : ct_m l G n y cy ml ry rm (.ref a :: As) I J (ct_qr G n I1 J1 r)) {C : String} {idx np : Nat} (hG : GoodIn gw_t (wsV own idx C y (.code y cy ml ry :: gw_t))) (hy : y.cls = C ∧ y.cls ≠ "java/lang/invoke/MethodHandle" ∧ y.cls ≠ "java/lang/invoke/VarHandle" ∧ (parseMethodDescriptor y.desc).map (fun d => d.parameters.length) = some np) (hrc : rm.cells = 0 ∧ rm.slots = 0) (hR : rm.frames + 1 ≤ R.frames ∧ 8 + (ml + 11) + rm.locals ≤ R.locals) (hrec : ∃ cell : Cell, H[a]? = some cell ∧ cell.vm.isStatics = false ∧ s.vm.findClass C = some cell.cls) (hn : As.length = np) {st0 : List Value} (hst : st0 = As.reverse ++ .ref a :: rest) (hls : ls.size = nL) (hro : (rest.map fun v => v.category).sum ≤ 8) (hd : decode cc pc = .ok (.invokevirtual idx, 3))
    (kk : ∀ (H1 : Heap) (locs1 : List Loc), st_ok G n I1 J1 s H1 locs1 → W p l e R s m args below meth c H1 locs1 0 0 Q (F0 m (pc + 3) ls (.ref r :: rest))) : W p l e R s m args below meth c H locs 0 0 Q (F0 m pc ls st0) := by
  subst hst
  refine r_size (fun h1 h2 => ?_)
  refine va_callr (va_runV (As := As) (rest := rest) ⟨X.1, X.2.1, X.2.2.1, X.2.2.2.1, X.2.2.2.2.1⟩ hM (cwV np X.2.2.2.2.1 hG rfl hrc.1 hrc.2 hy hR) ⟨wd_blind, hrec, fun U hU hW => ⟨rfl, S.pre X h1 h2 hU hW⟩⟩ rfl hn hls rfl (lv_room hro) hd ⟨Nat.zero_le _, Nat.zero_le _⟩) S.2.2.1 (fun _ _ h => h) (fun _ h => h) (fun u rr t H1 locs1 ht hvm hw hB hz1 hk1 hS => ?_)
  obtain ⟨rfl, hB⟩ := hB; exact kk H1 locs1 (S.wb hB ht hS)
theorem r_Sr (X : cx_ok G p s m args meth c cc nL own ret) (S : st_ok G n I J s H locs) {y : MethodName} {cy : ByteArray} {ml : Nat} {ry : Option FieldType} {rm : Room} {As : List Value} {I1 J1 : mm_T} {r : Nat} (hM : ct_m l G n y cy ml ry rm As I J (ct_qr G n I1 J1 r)) {idx np : Nat} (hG : GoodIn gw_t (va_wsS own idx y (.code y cy ml ry :: gw_t))) (hy : y.cls ≠ "java/lang/invoke/MethodHandle" ∧ y.cls ≠ "java/lang/invoke/VarHandle" ∧ (parseMethodDescriptor y.desc).map (fun d => d.parameters.length) = some np) (hrc : rm.cells = 0 ∧ rm.slots = 0) (hR : rm.frames + 1 ≤ R.frames ∧ 8 + (ml + 11) + rm.locals ≤ R.locals) (hn : As.length = np) {st0 : List Value} (hst : st0 = As.reverse ++ rest) (hls : ls.size = nL) (hro : (rest.map fun v => v.category).sum ≤ 8) (hd : decode cc pc = .ok (.invokestatic idx, 3))
    (kk : ∀ (H1 : Heap) (locs1 : List Loc), st_ok G n I1 J1 s H1 locs1 → W p l e R s m args below meth c H1 locs1 0 0 Q (F0 m (pc + 3) ls (.ref r :: rest))) : W p l e R s m args below meth c H locs 0 0 Q (F0 m pc ls st0) := by
  subst hst
  refine r_size (fun h1 h2 => ?_)
  refine va_callr (va_runS (As := As) (rest := rest) ⟨X.1, X.2.1, X.2.2.1, X.2.2.2.1, X.2.2.2.2.1⟩ hM (va_cwS np X.2.2.2.2.1 hG rfl hrc.1 hrc.2 hy hR) ⟨wd_blind, fun U hU hW => ⟨rfl, S.pre X h1 h2 hU hW⟩⟩ rfl hn hls rfl (lv_room hro) hd ⟨Nat.zero_le _, Nat.zero_le _⟩) S.2.2.1 (fun _ _ h => h) (fun _ h => h) (fun u rr t H1 locs1 ht hvm hw hB hz1 hk1 hS => ?_)
  obtain ⟨rfl, hB⟩ := hB; exact kk H1 locs1 (S.wb hB ht hS)
theorem r_SiN (X : cx_ok G p s m args meth c cc nL own ret) (S : st_ok G n I J s H locs) {y : MethodName} {cy : ByteArray} {ml : Nat} {ry : Option FieldType} {rm : Room} {As : List Value} {I1 J1 : mm_T} {r : Int32} {host : String} (hM : ct_m l G n y cy ml ry rm As I J (ct_qi G n I1 J1 r)) {idx np : Nat} (hk : Cond.methodLinkNest own idx y host ∈ nw_t) (hst1 : Cond.static y ∈ gw_t) (hini : Cond.initialized y.cls ∈ gw_t) (hcw : Cond.code y cy ml ry ∈ gw_t) (hy : y.cls ≠ "java/lang/invoke/MethodHandle" ∧ y.cls ≠ "java/lang/invoke/VarHandle" ∧ (parseMethodDescriptor y.desc).map (fun d => d.parameters.length) = some np) (hrc : rm.cells = 0 ∧ rm.slots = 0) (hR : rm.frames + 1 ≤ R.frames ∧ 8 + (ml + 11) + rm.locals ≤ R.locals) (hn : As.length = np) {st0 : List Value} (hst : st0 = As.reverse ++ rest) (hls : ls.size = nL) (hro : (rest.map fun v => v.category).sum ≤ 8) (hd : decode cc pc = .ok (.invokestatic idx, 3))
    (kk : ∀ (H1 : Heap) (locs1 : List Loc), st_ok G n I1 J1 s H1 locs1 → W p l e R s m args below meth c H1 locs1 0 0 Q (F0 m (pc + 3) ls (.int r :: rest))) : W p l e R s m args below meth c H locs 0 0 Q (F0 m pc ls st0) := by
  subst hst
  refine r_size (fun h1 h2 => ?_)
  refine va_calli (va_runSN (As := As) (rest := rest) ⟨X.1, X.2.1, X.2.2.1, X.2.2.2.1, X.2.2.2.2.1⟩ hM ⟨va_cnB np X.2.2.2.2.1 (fun w h => gw_good w ((List.mem_cons.mp h).elim (fun e => e ▸ hcw) id)) rfl hrc.1 hrc.2 (X.2.2.2.2.2.1.2.2.2.2.2 _ hk) (X.2.2.2.2.1 _ hini) hy hR, ⟨X.2.2.2.2.1 _ hst1, trivial⟩⟩ ⟨wd_blind, fun U hU hW => ⟨rfl, S.pre X h1 h2 hU hW⟩⟩ rfl hn hls rfl (lv_room hro) hd ⟨Nat.zero_le _, Nat.zero_le _⟩) S.2.2.1 (fun _ _ h => h) (fun _ h => h) (fun rr u t H1 locs1 ht hvm hw hB hz1 hk1 hS => ?_)
  subst hw; exact kk H1 locs1 (S.wb hB ht hS)
end RW
