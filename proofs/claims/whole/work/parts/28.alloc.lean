/-! ===== a world that grows: any cells M side by side from cx_b G on ===== -/
def cx_ao : List String := ["WhoSingsNext$Person", "WhoSingsNext$Slip", "WhoSingsNext$Text", "WhoSingsNext$Evening", "WhoSingsNext$Sheet"]
def cx_Ka (G : cx_T) (U : State) : Prop := cx_Kx G U ∧ ∀ C ∈ cx_ao, va_AO C U
theorem cx_Ka.at {G : cx_T} {s U : State} {H : Heap} {locs : List Loc} (h : cx_Ka G s) (hS : va_S (fun q => cx_b G ≤ q) s.heap H locs) (hU : U.heap = H) (hW : s.WarmedH U.vm) : cx_Ka G U :=
  ⟨h.1.at hS hU hW, fun C hC => va_AO.moved hW.alike (h.2 C hC)⟩
theorem cx_Ka.call {G : cx_T} {U : State} {g : JFrame} {mk : MethodId} {a : Array Value} (h : cx_Ka G U) : cx_Ka G (U.calling g mk a) := ⟨h.1.call, fun C hC => va_AO.moved (u := U) (U := U.calling g mk a) (Vm.Alike.refl U.vm) (h.2 C hC)⟩
def sg_w (G : cx_T) (n : Nat) (M : Nat → va_E) (t : State) : Prop := va_P (cx_D G) vwCl (gm_W (cx_b G) n M) t.heap ∧ t.heap.size = cx_b G + n
def sg_ok (G : cx_T) (n0 n : Nat) (M : Nat → va_E) (s : State) (H : Heap) (locs : List Loc) (cells : Nat) : Prop :=
  va_P (cx_D G) vwCl (gm_W (cx_b G) n M) H ∧ s.heap.size = cx_b G + n0 ∧ va_S (cx_A G) s.heap H locs ∧ n = n0 + cells
theorem gm_congr {b n : Nat} {M M' : Nat → va_E} (h : ∀ j, j < n → M j = M' j) : gm_W b n M = gm_W b n M' := by
  unfold gm_W
  apply List.map_congr_left
  intro k hk
  rw [h k (List.mem_range.mp hk)]
theorem sg_ok.to {G : cx_T} {n0 n : Nat} {M M' : Nat → va_E} {s : State} {H : Heap} {locs : List Loc} {cells : Nat} (S : sg_ok G n0 n M s H locs cells) (h : ∀ j, j < n → M j = M' j) : sg_ok G n0 n M' s H locs cells := ⟨by rw [← gm_congr h]; exact S.1, S.2⟩
theorem sg_w.to {G : cx_T} {n : Nat} {M M' : Nat → va_E} {t : State} (S : sg_w G n M t) (h : ∀ j, j < n → M j = M' j) : sg_w G n M' t := ⟨by rw [← gm_congr h]; exact S.1, S.2⟩
theorem up_at {M : Nat → va_E} {k j : Nat} {e : va_E} (h : j = k) : va_up M k e j = e := by unfold va_up; rw [if_pos h]
theorem up_ne {M : Nat → va_E} {k j : Nat} {e : va_E} (h : j ≠ k) : va_up M k e j = M j := by unfold va_up; rw [if_neg h]
def cx_oi (G : cx_T) (p : Program) (s : State) (m : MethodId) (args : Array Value) (meth : Method) (c : Code) (cc : ByteArray) (nL : Nat) (own : String) (ret : Option FieldType) : Prop := cx_ok G p s m args meth c cc nL own ret ∧ (∀ C ∈ cx_ao, va_AO C s)
/-- a contract that makes cells -/
def cg_m (l : Launch) (G : cx_T) (n : Nat) (y : MethodName) (cc : ByteArray) (ml : Nat) (ret : Option FieldType) (rm : Room) (av : List Value) (M : Nat → va_E) (Qc : Array Value → State → Outcome → State → Prop) (mc ms : Nat) : Prop :=
  Met l y (.code y cc ml ret :: gw_t) rm (va_Pc av (fun U => sg_w G n M U ∧ cx_Ka G U)) Qc mc ms (cx_A G)
def cg_qv (G : cx_T) (n : Nat) (M : Nat → va_E) : Array Value → State → Outcome → State → Prop := va_Qv (fun _ : Unit => True) (fun _ => sg_w G n M) (cx_A G)
def cg_qr (G : cx_T) (n : Nat) (M : Nat → va_E) (a : Nat) : Array Value → State → Outcome → State → Prop := va_Qr (fun _ : Unit => True) (fun _ x t => x = a ∧ sg_w G n M t) (cx_A G)
theorem sg_blind {G : cx_T} {n : Nat} {M : Nat → va_E} {av : List Value} : FrameBlind (va_Pc av (fun U => sg_w G n M U ∧ cx_Ka G U)) := fun a U g mk q => ⟨q.1, q.2.1, q.2.2.call⟩
theorem cg_en {l : Launch} {G : cx_T} {n : Nat} {y : MethodName} {cc : ByteArray} {ml : Nat} {ret : Option FieldType} {rm : Room} {av : List Value} {M : Nat → va_E} {Qc : Array Value → State → Outcome → State → Prop} {mc ms : Nat} (hy : plainName y.cls = true) (hav : (lg_sl av).length ≤ ml)
    (body : ∀ (p : Program) (e : Env) (s : State) (m : MethodId) (args : Array Value) (below : List Frame) (meth : Method) (c : Code) (ls : Array Slot), meth.name = y.name → cx_oi G p s m args meth c cc ml y.cls ret → sg_ok G n n M s s.heap [] 0 → lv_has ls ml (lv_args 0 av) → W p l e rm s m args below meth c s.heap [] 0 0 (MQ below Qc args s mc ms (cx_A G)) (F0 m 0 ls [])) : cg_m l G n y cc ml ret rm av M Qc mc ms := by
  unfold cg_m
  refine Met.ofW (cc := cc) (maxL := ml) (ret := ret) hy rfl ?_
  intro p e s m args below meth c s₁ B hml hv
  obtain ⟨rfl, ⟨hP, hsz⟩, hK⟩ := hv
  have hts := atoms_spec (ws := .code y cc ml ret :: gw_t) B.pre
  have hl := lv_entry av (n := ml) hav
  rw [lg_entry_eq]
  exact body p e s m av.toArray below meth c _ (name_of_methodNamed B.named B.method).1 ⟨⟨B.exec, B.bytes, hml, findClass_of_methodNamed B.named, fun w h => hts w (List.mem_cons_of_mem _ h), hK.1, B.returns, B.notSynchronized⟩, hK.2⟩ ⟨hP, hsz, va_S.rf, rfl⟩ hl
section RG
variable {p : Program} {l : Launch} {e : Env} {R : Room} {s : State} {m : MethodId} {args : Array Value} {below : List Frame} {meth : Method} {c : Code} {H : Heap} {locs : List Loc} {cells slots : Nat} {Q : State → Prop}
variable {cc : ByteArray} {pc : Nat} {ls : Array Slot} {rest : List Value} {G : cx_T} {n0 n nL : Nat} {M : Nat → va_E} {own : String} {ret : Option FieldType}
/-- the new cell's address -/
theorem sg_addr {q : Nat} {ev : va_E} {H1 : Heap} (S : sg_ok G n0 n M s H locs cells) (hP : va_P (cx_D G) vwCl (gm_W (cx_b G) n M ++ [(q, ev)]) H1) (hD : va_D (cx_A G) (gm_W (cx_b G) n M ++ [(q, ev)])) (hs : H1.size ≤ s.heap.size + (cells + 1)) : q = cx_b G + n := by
  have hq : (gm_W (cx_b G) n M ++ [(q, ev)])[n]? = some (q, ev) := by
    rw [List.getElem?_append_right (by rw [gm_len]; exact Nat.le_refl _), gm_len, Nat.sub_self]; rfl
  have h1 : cx_b G ≤ q := hD.2 n _ hq
  have h2 : q < H1.size := (hP n _ hq).lt
  have h3 := S.2.1
  have h4 := S.2.2.2
  rcases Nat.lt_or_ge q (cx_b G + n) with h | h
  · exfalso
    have hk : (gm_W (cx_b G) n M ++ [(q, ev)])[q - cx_b G]? = some (cx_b G + (q - cx_b G), M (q - cx_b G)) := by
      rw [List.getElem?_append_left (by rw [gm_len]; omega), gm_get (by omega)]
    have := hD.1 _ _ _ _ hk hq (by show cx_b G + (q - cx_b G) = q; omega)
    omega
  · omega
theorem sg_pushed {q : Nat} {ev : va_E} {H1 : Heap} (S : sg_ok G n0 n M s H locs cells) (hM : M n = ev) (hq : q = cx_b G + n) (hP : va_P (cx_D G) vwCl (gm_W (cx_b G) n M ++ [(q, ev)]) H1) (hS : va_S (cx_A G) s.heap H1 locs) : sg_ok G n0 (n + 1) M s H1 locs (cells + 1) := by
  subst hq
  rw [gm_push] at hP
  refine ⟨?_, S.2.1, hS, by have := S.2.2.2; omega⟩
  rw [gm_congr (M' := va_up M n ev)]
  · exact hP
  · intro j hj
    by_cases h : j = n
    · rw [up_at h, h, hM]
    · rw [up_ne h]
theorem sg_new (X : cx_oi G p s m args meth c cc nL own ret) (S : sg_ok G n0 n M s H locs cells) {C : String} {T : u_T} {N ci idx : Nat} {fs : List Value} (hM : M n = .inr (ci, fs)) (hc : vwCl[ci]? = some (C, T, N)) (hin : ∀ w ∈ u_ws C T N, w ∈ gw_t) (ty : Nat → FieldType) (hty : ∀ k, k < N → parseFieldDescriptor (T k).2.2.1 = some (ty k)) (hcl : Cond.classLink own idx C ∈ gw_t) (hinst : Cond.instantiable C N ∈ gw_t) (hini : Cond.initialized C ∈ gw_t) (hfs : ∀ j, j < N → defaultValue (ty j) = vp_V fs j) (hcells : cells + 1 ≤ R.cells) (hslots : slots + N ≤ R.slots) (hd : decode cc pc = .ok (.new idx, 3))
    (kk : ∀ H1 : Heap, sg_ok G n0 (n + 1) M s H1 locs (cells + 1) → W p l e R s m args below meth c H1 locs (cells + 1) (slots + N) Q (F0 m (pc + 3) ls (.ref (cx_b G + n) :: rest))) : W p l e R s m args below meth c H locs cells slots Q (F0 m pc ls rest) := by
  refine va_new (ci := ci) (fs := fs) (C := C) (T := T) (N := N) X.1.1 X.1.2.1 X.1.2.2.2.2.1 hin ty hty X.1.2.2.2.1 (X.1.2.2.2.2.1 _ hcl) (X.1.2.2.2.2.1 _ hinst) (X.1.2.2.2.2.1 _ hini) X.1.2.2.2.2.2.1.1 S.1 gm_D S.2.2.1 (fun q h => by show cx_b G ≤ q; have := S.2.1; omega) hc hfs hcells hslots hd (fun q H1 hP hD hS => ?_)
  refine r_size (fun h1 h2 => ?_)
  have hq := sg_addr S hP hD h2
  have hk := kk H1 (sg_pushed S hM hq hP hS)
  rw [← hq] at hk
  exact hk
theorem sg_newi (X : cx_oi G p s m args meth c cc nL own ret) (S : sg_ok G n0 n M s H locs cells) {k : Int32} {N : Nat} (hM : M n = .inl (cx_c G 0, N, .inl (fun _ => 0))) (hk0 : ¬ k < 0) (hN : k.toNatClampNeg = N) (hb : N * 4 ≤ 536870912) (hcells : cells + 1 ≤ R.cells) (hslots : slots + N ≤ R.slots) (harr : Cond.arrayClass .int ∈ gw_t) (hd : decode cc pc = .ok (.newarray .int, 2))
    (kk : ∀ H1 : Heap, sg_ok G n0 (n + 1) M s H1 locs (cells + 1) → W p l e R s m args below meth c H1 locs (cells + 1) (slots + N) Q (F0 m (pc + 2) ls (.ref (cx_b G + n) :: rest))) : W p l e R s m args below meth c H locs cells slots Q (F0 m pc ls (.int k :: rest)) := by
  refine va_newa (atype := .int) (ty := .int) (a0 := (N, .inl (fun _ => 0))) X.1.1 X.1.2.1 (X.1.2.2.2.2.1 _ harr) rfl X.1.2.2.2.2.2.1.1 S.1 gm_D S.2.2.1 (fun q h => by show cx_b G ≤ q; have := S.2.1; omega) (fun cA => rfl) hk0 hN hb hcells hslots hd (fun q cA H1 hK hP hD hS => ?_)
  refine r_size (fun h1 h2 => ?_)
  have hq := sg_addr S hP hD h2
  have hcA : cA = cx_c G 0 := by
    have e1 := (hK.2 7 (cA, .int) rfl).2
    have e2 := (hK.2 0 (cx_c G 0, .int) rfl).2
    exact Option.some.inj (e1.symm.trans e2)
  subst hcA
  have hk := kk H1 (sg_pushed S hM hq hP hS)
  rw [← hq] at hk
  exact hk
theorem sg_newz (X : cx_oi G p s m args meth c cc nL own ret) (S : sg_ok G n0 n M s H locs cells) {k : Int32} {N : Nat} (hM : M n = .inl (cx_c G 1, N, .inl (fun _ => 0))) (hk0 : ¬ k < 0) (hN : k.toNatClampNeg = N) (hb : N * 1 ≤ 536870912) (hcells : cells + 1 ≤ R.cells) (hslots : slots + N ≤ R.slots) (harr : Cond.arrayClass .boolean ∈ gw_t) (hd : decode cc pc = .ok (.newarray .boolean, 2))
    (kk : ∀ H1 : Heap, sg_ok G n0 (n + 1) M s H1 locs (cells + 1) → W p l e R s m args below meth c H1 locs (cells + 1) (slots + N) Q (F0 m (pc + 2) ls (.ref (cx_b G + n) :: rest))) : W p l e R s m args below meth c H locs cells slots Q (F0 m pc ls (.int k :: rest)) := by
  refine va_newa (atype := .boolean) (ty := .boolean) (a0 := (N, .inl (fun _ => 0))) X.1.1 X.1.2.1 (X.1.2.2.2.2.1 _ harr) rfl X.1.2.2.2.2.2.1.1 S.1 gm_D S.2.2.1 (fun q h => by show cx_b G ≤ q; have := S.2.1; omega) (fun cA => rfl) hk0 hN hb hcells hslots hd (fun q cA H1 hK hP hD hS => ?_)
  refine r_size (fun h1 h2 => ?_)
  have hq := sg_addr S hP hD h2
  have hcA : cA = cx_c G 1 := by
    have e1 := (hK.2 7 (cA, .boolean) rfl).2
    have e2 := (hK.2 1 (cx_c G 1, .boolean) rfl).2
    exact Option.some.inj (e1.symm.trans e2)
  subst hcA
  have hk := kk H1 (sg_pushed S hM hq hP hS)
  rw [← hq] at hk
  exact hk
theorem sg_newq (X : cx_oi G p s m args meth c cc nL own ret) (S : sg_ok G n0 n M s H locs cells) (t0 : Nat) {C : String} (ht : (cx_t G)[t0]? = some (cx_c G t0, .object C)) (hC : C ∈ cx_ao) {k : Int32} {N idx : Nat} (hM : M n = .inl (cx_c G t0, N, .inr (.inr (.inr (.inr (fun _ => none)))))) (hk0 : ¬ k < 0) (hN : k.toNatClampNeg = N) (hb : N * 4 ≤ 536870912) (hcells : cells + 1 ≤ R.cells) (hslots : slots + N ≤ R.slots) (hcl : Cond.classLink own idx C ∈ gw_t) (hd : decode cc pc = .ok (.anewarray idx, 3))
    (kk : ∀ H1 : Heap, sg_ok G n0 (n + 1) M s H1 locs (cells + 1) → W p l e R s m args below meth c H1 locs (cells + 1) (slots + N) Q (F0 m (pc + 3) ls (.ref (cx_b G + n) :: rest))) : W p l e R s m args below meth c H locs cells slots Q (F0 m pc ls (.int k :: rest)) := by
  refine va_newq (C := C) X.1.1 X.1.2.1 X.1.2.2.2.1 (X.1.2.2.2.2.1 _ hcl) (X.2 C hC) X.1.2.2.2.2.2.1.1 S.1 gm_D S.2.2.1 (fun q h => by show cx_b G ≤ q; have := S.2.1; omega) hk0 hN hb hcells hslots hd (fun q cA H1 hK hP hD hS => ?_)
  refine r_size (fun h1 h2 => ?_)
  have hq := sg_addr S hP hD h2
  have hcA : cA = cx_c G t0 := by
    obtain ⟨k1, c1, a1, a2, a3, a4⟩ := (hK.2 7 (cA, .object C) rfl).2
    have ht' : (cx_t G ++ [(cA, FieldType.object C)])[t0]? = some (cx_c G t0, .object C) := by
      rw [List.getElem?_append_left (List.getElem?_eq_some_iff.mp ht).1]; exact ht
    obtain ⟨k2, c2, b1, b2, b3, b4⟩ := (hK.2 t0 _ ht').2
    exact Option.some.inj (a4.symm.trans b4)
  subst hcA
  have hk := kk H1 (sg_pushed S hM hq hP hS)
  rw [← hq] at hk
  exact hk
theorem sg_set {k : Nat} {ev : va_E} {H1 : Heap} {locs1 : List Loc} (S : sg_ok G n0 n M s H locs cells) (hP : va_P (cx_D G) vwCl ((gm_W (cx_b G) n M).set k (cx_b G + k, ev)) H1) (hS : va_S (cx_A G) s.heap H1 locs1) : sg_ok G n0 n (va_up M k ev) s H1 locs1 cells := ⟨by rw [← gm_set]; exact hP, S.2.1, hS, S.2.2.2⟩
/-- a field, final (in a constructor) -/
theorem sg_putF (X : cx_oi G p s m args meth c cc nL own ret) (hin2 : meth.name = "<init>") (S : sg_ok G n0 n M s H locs cells) {k ci idx : Nat} (hk : k < n) {fs : List Value} (hM : M k = .inr (ci, fs)) {T : u_T} {N : Nat} {ty0 : Nat → FieldType} (hc : vwCl[ci]? = some (own, T, N)) (hin : ∀ w ∈ u_ws own T N, w ∈ gw_t) (hty : ∀ k, k < N → parseFieldDescriptor (T k).2.2.1 = some (ty0 k)) (hnm : ∀ a, a < N → ∀ b, b < N → a ≠ b → (T a).2.1 ≠ (T b).2.1) (j : Nat) (hj : j < N) (hdecl : (T j).1 = own) (hw : Cond.fieldLink own idx (T j).1 (T j).2.1 (T j).2.2.1 ∈ gw_t) (hfin : (T j).2.2.2 = true) {v : Value} (hn : narrow (ty0 j) v = v) (hfit : fits (ty0 j) v = true) (hl : j < fs.length) (hd : decode cc pc = .ok (.putfield idx, 3))
    (kk : ∀ (H1 : Heap) (locs1 : List Loc), sg_ok G n0 n (va_up M k (.inr (ci, fs.set j v))) s H1 locs1 cells → W p l e R s m args below meth c H1 locs1 cells slots Q (F0 m (pc + 3) ls rest)) : W p l e R s m args below meth c H locs cells slots Q (F0 m pc ls (v :: .ref (cx_b G + k) :: rest)) := by
  refine va_putF (D := cx_D G) (ci := ci) (v := v) (ty := ty0 j) (C := own) (T := T) (N := N) X.1.1 X.1.2.1 X.1.2.2.2.2.1 hin ty0 hty hnm X.1.2.2.2.1 X.1.2.2.2.2.2.1.1 S.1 gm_D S.2.2.1 k (by rw [gm_get hk, hM]) hc j hj (X.1.2.2.2.2.1 _ hw) (fun _ h => h) hfin hin2 hdecl (hty j hj) hn hfit hl hd (fun H1 locs1 hP _ hS => ?_)
  exact kk H1 locs1 (sg_set S hP hS)
theorem sg_put (X : cx_oi G p s m args meth c cc nL own ret) (S : sg_ok G n0 n M s H locs cells) {k ci idx : Nat} (hk : k < n) {fs : List Value} (hM : M k = .inr (ci, fs)) {C : String} {T : u_T} {N : Nat} {ty0 : Nat → FieldType} (hc : vwCl[ci]? = some (C, T, N)) (hin : ∀ w ∈ u_ws C T N, w ∈ gw_t) (hty : ∀ k, k < N → parseFieldDescriptor (T k).2.2.1 = some (ty0 k)) (hnm : ∀ a, a < N → ∀ b, b < N → a ≠ b → (T a).2.1 ≠ (T b).2.1) (j : Nat) (hj : j < N) (hw : Cond.fieldLink own idx (T j).1 (T j).2.1 (T j).2.2.1 ∈ gw_t) (hfin : (T j).2.2.2 = false) {v : Value} (hn : narrow (ty0 j) v = v) (hfit : fits (ty0 j) v = true) (hl : j < fs.length) (hd : decode cc pc = .ok (.putfield idx, 3))
    (kk : ∀ (H1 : Heap) (locs1 : List Loc), sg_ok G n0 n (va_up M k (.inr (ci, fs.set j v))) s H1 locs1 cells → W p l e R s m args below meth c H1 locs1 cells slots Q (F0 m (pc + 3) ls rest)) : W p l e R s m args below meth c H locs cells slots Q (F0 m pc ls (v :: .ref (cx_b G + k) :: rest)) := by
  refine va_put (D := cx_D G) (ci := ci) (v := v) (ty := ty0 j) (C := C) (T := T) (N := N) X.1.1 X.1.2.1 X.1.2.2.2.2.1 hin ty0 hty hnm X.1.2.2.2.1 X.1.2.2.2.2.2.1.1 S.1 gm_D S.2.2.1 k (by rw [gm_get hk, hM]) hc j hj (X.1.2.2.2.2.1 _ hw) (fun _ h => h) hfin (hty j hj) hn hfit hl hd (fun H1 locs1 hP _ hS => ?_)
  exact kk H1 locs1 (sg_set S hP hS)
theorem sg_get (X : cx_oi G p s m args meth c cc nL own ret) (S : sg_ok G n0 n M s H locs cells) {k ci idx : Nat} (hk : k < n) {fs : List Value} (hM : M k = .inr (ci, fs)) {C : String} {T : u_T} {N : Nat} (hc : vwCl[ci]? = some (C, T, N)) (hin : ∀ w ∈ u_ws C T N, w ∈ gw_t) (j : Nat) (hj : j < N) (hw : Cond.fieldLink own idx (T j).1 (T j).2.1 (T j).2.2.1 ∈ gw_t) {v : Value} (hv : fs[j]? = some v) (hd : decode cc pc = .ok (.getfield idx, 3))
    (kk : W p l e R s m args below meth c H locs cells slots Q (F0 m (pc + 3) ls (v :: rest))) : W p l e R s m args below meth c H locs cells slots Q (F0 m pc ls (.ref (cx_b G + k) :: rest)) :=
  va_get (D := cx_D G) (ci := ci) (v := v) (C := C) (T := T) (N := N) X.1.1 X.1.2.1 X.1.2.2.2.2.1 hin X.1.2.2.2.1 X.1.2.2.2.2.2.1.1 S.1 k (by rw [gm_get hk, hM]) hc j hj (X.1.2.2.2.2.1 _ hw) (fun _ h => h) hv hd kk
/-- an object into a row of references -/
theorem sg_astq (X : cx_oi G p s m args meth c cc nL own ret) (S : sg_ok G n0 n M s H locs cells) {k kv t0 ci N : Nat} (hk : k < n) (hkv : kv < n) {f : Nat → Option Nat} (hM : M k = .inl (cx_c G t0, N, .inr (.inr (.inr (.inr f))))) {r : vw_C} (ht : (cx_t G)[t0]? = some (cx_c G t0, .object r.1)) {vs : List Value} (hMv : M kv = .inr (ci, vs)) (hc : vwCl[ci]? = some r) {x : Int32} (hx : ix_in x N = true) (hd : decode cc pc = .ok (.aastore, 1))
    (kk : ∀ (H1 : Heap) (locs1 : List Loc), sg_ok G n0 n (va_up M k (.inl (cx_c G t0, N, .inr (.inr (.inr (.inr (va_up f x.toNatClampNeg (some (cx_b G + kv))))))))) s H1 locs1 cells → W p l e R s m args below meth c H1 locs1 cells slots Q (F0 m (pc + 1) ls rest)) : W p l e R s m args below meth c H locs cells slots Q (F0 m pc ls (.ref (cx_b G + kv) :: .int x :: .ref (cx_b G + k) :: rest)) := by
  refine va_astq (r := r) X.1.1 X.1.2.1 X.1.2.2.2.2.2.1.1 S.1 gm_D S.2.2.1 k t0 kv ci (by rw [gm_get hk, hM]) ht (by rw [gm_get hkv, hMv]) hc (ix_vp hx) hd (fun H1 locs1 hP _ hS => ?_)
  exact kk H1 locs1 (sg_set S hP hS)
theorem sg_vret (X : cx_oi G p s m args meth c cc nL own none) (S : sg_ok G n0 n M s H locs cells) {n1 : Nat} (hn : n = n1) {M1 : Nat → va_E} (hM : ∀ j, j < n → M j = M1 j) (hd : decode cc pc = .ok (.return_, 1)) : W p l e R s m args below meth c H locs cells slots (MQ below (cg_qv G n1 M1) args s cells slots (cx_A G)) (F0 m pc ls []) := by
  subst hn
  refine r_size (fun h1 h2 => W.vret X.1.1 X.1.2.1 X.1.2.2.2.2.2.2.1 (fun t ht hW => ⟨⟨(), rfl, trivial, ⟨by rw [ht, ← gm_congr hM]; exact S.1, ?_⟩⟩, S.2.2.1.F ht⟩) S.2.2.1.2.2 hd X.1.2.2.2.2.2.2.2)
  rw [ht]
  have h3 := S.2.1
  have h4 := S.2.2.2
  have h5 : cx_b G + n ≤ H.size := by
    rcases Nat.eq_zero_or_pos n with h0 | h0
    · omega
    · have := (S.1 (n - 1) _ (gm_get (by omega))).lt
      simp only at this
      omega
  omega
theorem sg_size (S : sg_ok G n0 n M s H locs cells) (h1 : s.heap.size ≤ H.size) (h2 : H.size ≤ s.heap.size + cells) : H.size = cx_b G + n := by
  have h3 := S.2.1
  have h4 := S.2.2.2
  have h5 : cx_b G + n ≤ H.size := by
    rcases Nat.eq_zero_or_pos n with h0 | h0
    · omega
    · have := (S.1 (n - 1) _ (gm_get (by omega))).lt
      simp only at this
      omega
  omega
theorem sg_pre (X : cx_oi G p s m args meth c cc nL own ret) (S : sg_ok G n0 n M s H locs cells) (h1 : s.heap.size ≤ H.size) (h2 : H.size ≤ s.heap.size + cells) {U : State} (hU : U.heap = H) (hW : s.WarmedH U.vm) : sg_w G n M U ∧ cx_Ka G U :=
  ⟨⟨by rw [hU]; exact S.1, by rw [hU]; exact sg_size S h1 h2⟩, cx_Ka.at ⟨X.1.2.2.2.2.2.1, X.2⟩ S.2.2.1 hU hW⟩
theorem sg_oi (X : cx_oi G p s m args meth c cc nL own ret) {idx : Nat} (hlink : Cond.methodLink own idx Lib.objectInit ∈ gw_t) (hinst : Cond.instanceMethod Lib.objectInit ∈ gw_t) (hcode : Cond.code Lib.objectInit ⟨#[0xb1]⟩ 1 none ∈ gw_t) {a : Nat} (hls : ls.size = nL) (hd : decode cc pc = .ok (.invokespecial idx, 3)) (hf : 1 ≤ R.frames) (hlo : (rest.map fun v => v.category).sum + 12 ≤ R.locals)
    (kk : W p l e R s m args below meth c H locs cells slots Q (F0 m (pc + 3) ls rest)) : W p l e R s m args below meth c H locs cells slots Q (F0 m pc ls (.ref a :: rest)) := by
  refine W.objInit X.1.1 X.1.2.1 X.1.2.2.2.1 (X.1.2.2.2.2.1 _ hlink) (X.1.2.2.2.2.1 _ hinst) (X.1.2.2.2.2.1 _ hcode) rfl (by rw [X.1.2.2.1]; exact hls) rfl hd hf (by show 2 * 0 + _ + 12 ≤ _; omega) ?_
  exact kk
theorem sg_callI (X : cx_oi G p s m args meth c cc nL own ret) (S : sg_ok G n0 n M s H locs cells) {y : MethodName} {cy : ByteArray} {ml : Nat} {rm : Room} {a : Nat} {As : List Value} {n1 : Nat} {M1 : Nat → va_E} {mc ms : Nat} (hM : cg_m l G n y cy ml none rm (.ref a :: As) M (cg_qv G n1 M1) mc ms) {idx np : Nat} (hn1 : n1 = n + mc) (hl : Cond.methodLink own idx y ∈ gw_t) (hinst : Cond.instanceMethod y ∈ gw_t) (hini : Cond.initialized y.cls ∈ gw_t) (hcw : Cond.code y cy ml none ∈ gw_t) (hnm : y.name = "<init>") (hy : y.cls ≠ "java/lang/invoke/MethodHandle" ∧ y.cls ≠ "java/lang/invoke/VarHandle" ∧ (parseMethodDescriptor y.desc).map (fun d => d.parameters.length) = some np) (hrc : rm.cells = mc ∧ rm.slots = ms) (hR : rm.frames + 1 ≤ R.frames ∧ 8 + (ml + 11) + rm.locals ≤ R.locals) (hn : As.length = np) {st0 : List Value} (hst : st0 = As.reverse ++ .ref a :: rest) (hls : ls.size = nL) (hro : (rest.map fun v => v.category).sum ≤ 8) (hd : decode cc pc = .ok (.invokespecial idx, 3)) (hf : cells + mc ≤ R.cells ∧ slots + ms ≤ R.slots)
    (kk : ∀ (H1 : Heap) (locs1 : List Loc), sg_ok G n0 n1 M1 s H1 locs1 (cells + mc) → W p l e R s m args below meth c H1 locs1 (cells + mc) (slots + ms) Q (F0 m (pc + 3) ls rest)) : W p l e R s m args below meth c H locs cells slots Q (F0 m pc ls st0) := by
  subst hst
  refine r_size (fun h1 h2 => ?_)
  refine va_callv (va_runI (As := As) (rest := rest) ⟨X.1.1, X.1.2.1, X.1.2.2.1, X.1.2.2.2.1, X.1.2.2.2.2.1⟩ hM (cwI np X.1.2.2.2.2.1 (fun w h => gw_good w ((List.mem_cons.mp h).elim (fun e => e ▸ hcw) id)) rfl hrc.1 hrc.2 (X.1.2.2.2.2.1 _ hini) (X.1.2.2.2.2.1 _ hl) (X.1.2.2.2.2.1 _ hinst) hnm hy hR) ⟨sg_blind, fun U hU hW => ⟨rfl, sg_pre X S h1 h2 hU hW⟩⟩ rfl hn hls rfl (lv_room hro) hd hf) S.2.2.1 (fun _ _ h => h) (fun _ h => h) (fun u t H1 locs1 ht hvm hw hB hz1 hk1 hS => ?_)
  exact kk H1 locs1 ⟨by rw [← ht]; exact hB.1, S.2.1, hS, by have := S.2.2.2; omega⟩
theorem sg_callIN (X : cx_oi G p s m args meth c cc nL own ret) (S : sg_ok G n0 n M s H locs cells) {y : MethodName} {cy : ByteArray} {ml : Nat} {rm : Room} {a : Nat} {As : List Value} {n1 : Nat} {M1 : Nat → va_E} {mc ms : Nat} {host : String} (hM : cg_m l G n y cy ml none rm (.ref a :: As) M (cg_qv G n1 M1) mc ms) {idx np : Nat} (hn1 : n1 = n + mc) (hl : Cond.methodLinkNest own idx y host ∈ nw_t) (hinst : Cond.instanceMethod y ∈ gw_t) (hini : Cond.initialized y.cls ∈ gw_t) (hcw : Cond.code y cy ml none ∈ gw_t) (hnm : y.name = "<init>") (hy : y.cls ≠ "java/lang/invoke/MethodHandle" ∧ y.cls ≠ "java/lang/invoke/VarHandle" ∧ (parseMethodDescriptor y.desc).map (fun d => d.parameters.length) = some np) (hrc : rm.cells = mc ∧ rm.slots = ms) (hR : rm.frames + 1 ≤ R.frames ∧ 8 + (ml + 11) + rm.locals ≤ R.locals) (hn : As.length = np) {st0 : List Value} (hst : st0 = As.reverse ++ .ref a :: rest) (hls : ls.size = nL) (hro : (rest.map fun v => v.category).sum ≤ 8) (hd : decode cc pc = .ok (.invokespecial idx, 3)) (hf : cells + mc ≤ R.cells ∧ slots + ms ≤ R.slots)
    (kk : ∀ (H1 : Heap) (locs1 : List Loc), sg_ok G n0 n1 M1 s H1 locs1 (cells + mc) → W p l e R s m args below meth c H1 locs1 (cells + mc) (slots + ms) Q (F0 m (pc + 3) ls rest)) : W p l e R s m args below meth c H locs cells slots Q (F0 m pc ls st0) := by
  subst hst
  refine r_size (fun h1 h2 => ?_)
  refine va_callv (va_runIN (As := As) (rest := rest) ⟨X.1.1, X.1.2.1, X.1.2.2.1, X.1.2.2.2.1, X.1.2.2.2.2.1⟩ hM ⟨va_cnB np X.1.2.2.2.2.1 (fun w h => gw_good w ((List.mem_cons.mp h).elim (fun e => e ▸ hcw) id)) rfl hrc.1 hrc.2 (X.1.2.2.2.2.2.1.2.2.2.2.2 _ hl) (X.1.2.2.2.2.1 _ hini) hy hR, hnm, X.1.2.2.2.2.1 _ hinst⟩ ⟨sg_blind, fun U hU hW => ⟨rfl, sg_pre X S h1 h2 hU hW⟩⟩ rfl hn hls rfl (lv_room hro) hd hf) S.2.2.1 (fun _ _ h => h) (fun _ h => h) (fun u t H1 locs1 ht hvm hw hB hz1 hk1 hS => ?_)
  exact kk H1 locs1 ⟨by rw [← ht]; exact hB.1, S.2.1, hS, by have := S.2.2.2; omega⟩
end RG
