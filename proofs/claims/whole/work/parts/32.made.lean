/-! ===== a text is made ===== -/
theorem arr_congr {cA : ClassId} {L : Nat} {f c : Nat → Int32} (h : ∀ i, i < L → f i = c i) : vp_cell cA (L, .inl f) = vp_cell cA (L, .inl c) := by
  rw [vp_cell_i, vp_cell_i]
  unfold arrV
  congr 2
  funext j
  show Value.int (f j.val) = Value.int (c j.val)
  rw [h j.val j.isLt]
theorem gm_cells {D : va_G} {b n : Nat} {M M' : Nat → va_E} {H : Heap} (h : ∀ j, j < n → M j = M' j ∨ ∃ (cA : ClassId) (L : Nat) (f c : Nat → Int32), M j = .inl (cA, L, .inl f) ∧ M' j = .inl (cA, L, .inl c) ∧ ∀ i, i < L → f i = c i) (hP : va_P D vwCl (gm_W b n M) H) : va_P D vwCl (gm_W b n M') H := by
  intro k q hk
  obtain ⟨hkn, rfl⟩ := gm_lt hk
  have h1 := hP k _ (gm_get (M := M) hkn)
  rcases h k hkn with e | ⟨cA, L, f, c, e1, e2, e3⟩
  · rw [e] at h1; exact h1
  · have h2 : va_at D vwCl (b + k, M k) H := h1
    show va_at D vwCl (b + k, M' k) H
    rw [e1] at h2
    rw [e2]
    have h3 : H[b + k]? = some (vp_cell cA (L, .inl f)) := h2
    show H[b + k]? = some (vp_cell cA (L, .inl c))
    rw [← arr_congr e3]
    exact h3
section RT
variable {p : Program} {l : Launch} {e : Env} {R : Room} {s : State} {m : MethodId} {args : Array Value} {below : List Frame} {meth : Method} {c : Code} {H : Heap} {locs : List Loc} {cells slots : Nat} {Q : State → Prop}
variable {cc : ByteArray} {pc : Nat} {ls : Array Slot} {rest : List Value} {G : cx_T} {n0 n nL : Nat} {M : Nat → va_E} {own : String} {ret : Option FieldType}
theorem sg_aret {t : FieldType} (ht : (∃ nm, t = .object nm) ∨ ∃ t', t = .array t') (X : cx_oi G p s m args meth c cc nL own (some t)) (S : sg_ok G n0 n M s H locs cells) {n1 : Nat} (hn : n = n1) {M1 : Nat → va_E} (hM : ∀ j, j < n → M j = M1 j ∨ ∃ (cA : ClassId) (L : Nat) (f c : Nat → Int32), M j = .inl (cA, L, .inl f) ∧ M1 j = .inl (cA, L, .inl c) ∧ ∀ i, i < L → f i = c i) {a : Nat} (hd : decode cc pc = .ok (.areturn, 1)) : W p l e R s m args below meth c H locs cells slots (MQ below (cg_qr G n1 M1 a) args s cells slots (cx_A G)) (F0 m pc ls [.ref a]) := by
  subst hn
  refine r_size (fun h1 h2 => ?_)
  exact W.aret X.1.1 X.1.2.1 X.1.2.2.2.2.2.2.1 ht (Or.inr ⟨_, rfl⟩) (fun t ht hW => ⟨⟨(), a, rfl, trivial, rfl, ⟨by rw [ht]; exact gm_cells hM S.1, by rw [ht]; exact sg_size S h1 h2⟩⟩, S.2.2.1.F ht⟩) S.2.2.1.2.2 hd X.1.2.2.2.2.2.2.2
theorem sg_copy (X : cx_oi G p s m args meth c cc nL own ret) (S : sg_ok G n0 n M s H locs cells) {k0 k1 s0 s1 idx : Nat} (h0 : k0 < n) (h1 : k1 < n) {f0 f1 : Nat → Int32} (hf0 : M k0 = .inl (cx_c G 0, s0, .inl f0)) (hf1 : M k1 = .inl (cx_c G 0, s1, .inl f1)) (hls : ls.size = nL) (hk : Cond.methodLink own idx arraycopyName ∈ gw_t) {sp dp k : Int32} (g : pz_cp sp dp k s0 s1 = true) (hfr : 1 ≤ R.frames) (hlo : (rest.map fun v => v.category).sum + (nativeFrameWords "java/lang/System" "arraycopy" 5 + 11) ≤ R.locals) (hd : decode cc pc = .ok (.invokestatic idx, 3))
    (kk : ∀ (H1 : Heap) (locs1 : List Loc), sg_ok G n0 n (va_up M k1 (.inl (cx_c G 0, s1, .inl (va_cpy f0 f1 sp.toNatClampNeg dp.toNatClampNeg k.toNatClampNeg)))) s H1 locs1 cells → W p l e R s m args below meth c H1 locs1 cells slots Q (F0 m (pc + 3) ls rest)) : W p l e R s m args below meth c H locs cells slots Q (F0 m pc ls (.int k :: .int dp :: .ref (cx_b G + k1) :: .int sp :: .ref (cx_b G + k0) :: rest)) := by
  unfold pz_cp at g
  obtain ⟨g1, g2, g3, g4, g5⟩ := of_decide_eq_true g
  refine va_copyi X.1.1 X.1.2.1 (X.1.2.2.1.trans hls.symm) X.1.2.2.2.1 (X.1.2.2.2.2.1 _ hk) (X.1.2.2.2.2.1 _ ac_w.1) (X.1.2.2.2.2.1 _ ac_w.2.1) (X.1.2.2.2.2.1 _ ac_w.2.2) X.1.2.2.2.2.2.1.1 S.1 gm_D S.2.2.1 k0 k1 0 0 (by rw [gm_get h0, hf0]) (by rw [gm_get h1, hf1]) rfl (ty := .int) rfl rfl g1 g2 g3 g4 g5 (fun _ _ => rfl) hfr hlo hd (fun H1 locs1 hP _ hS => ?_)
  exact kk H1 locs1 (sg_set S hP hS)
theorem sg_min (X : cx_oi G p s m args meth c cc nL own ret) (hls : ls.size = nL) {idx : Nat} (hk : Cond.methodLink own idx Lib.Math.min.name ∈ gw_t) (hf : 1 ≤ R.frames) (hlo : (rest.map fun v => v.category).sum + 13 ≤ R.locals) (hc : cells ≤ R.cells) (hs : slots ≤ R.slots) {x y : Int32} (hd : decode cc pc = .ok (.invokestatic idx, 3))
    (kk : W p l e R s m args below meth c H locs cells slots Q (F0 m (pc + 3) ls (.int (if y < x then y else x) :: rest))) : W p l e R s m args below meth c H locs cells slots Q (F0 m pc ls (.int y :: .int x :: rest)) :=
  va_mmin X.1.1 X.1.2.1 (X.1.2.2.1.trans hls.symm) X.1.2.2.2.1 (X.1.2.2.2.2.1 _ hk) (X.1.2.2.2.2.1 _ mq_min.1) (X.1.2.2.2.2.1 _ mq_min.2.1) (X.1.2.2.2.2.1 _ mq_min.2.2) hf hlo hc hs hd kk
theorem sg_alen (X : cx_oi G p s m args meth c cc nL own ret) (S : sg_ok G n0 n M s H locs cells) {k N : Nat} (hk : k < n) {f : Nat → Int32} (hf : M k = .inl (cx_c G 0, N, .inl f)) {v : Int32} (hv : Int32.ofNat N = v) (hd : decode cc pc = .ok (.arraylength, 1))
    (kk : W p l e R s m args below meth c H locs cells slots Q (F0 m (pc + 1) ls (.int v :: rest))) : W p l e R s m args below meth c H locs cells slots Q (F0 m pc ls (.ref (cx_b G + k) :: rest)) :=
  va_alen X.1.1 X.1.2.1 X.1.2.2.2.2.2.1.1 S.1 k 0 (by rw [gm_get hk, hf]) (ty := .int) rfl hv hd kk
theorem sg_callSr (X : cx_oi G p s m args meth c cc nL own ret) (S : sg_ok G n0 n M s H locs cells) {y : MethodName} {cy : ByteArray} {ml : Nat} {ry : Option FieldType} {rm : Room} {As : List Value} {a n1 : Nat} {M1 : Nat → va_E} {mc ms : Nat} (hM : cg_m l G n y cy ml ry rm As M (cg_qr G n1 M1 a) mc ms) {idx np : Nat} (hn1 : n1 = n + mc) (hG : GoodIn gw_t (va_wsS own idx y (.code y cy ml ry :: gw_t))) (hy : y.cls ≠ "java/lang/invoke/MethodHandle" ∧ y.cls ≠ "java/lang/invoke/VarHandle" ∧ (parseMethodDescriptor y.desc).map (fun d => d.parameters.length) = some np) (hrc : rm.cells = mc ∧ rm.slots = ms) (hR : rm.frames + 1 ≤ R.frames ∧ 8 + (ml + 11) + rm.locals ≤ R.locals) (hn : As.length = np) {st0 : List Value} (hst : st0 = As.reverse ++ rest) (hls : ls.size = nL) (hro : (rest.map fun v => v.category).sum ≤ 8) (hd : decode cc pc = .ok (.invokestatic idx, 3)) (hf : cells + mc ≤ R.cells ∧ slots + ms ≤ R.slots)
    (kk : ∀ (H1 : Heap) (locs1 : List Loc), sg_ok G n0 n1 M1 s H1 locs1 (cells + mc) → W p l e R s m args below meth c H1 locs1 (cells + mc) (slots + ms) Q (F0 m (pc + 3) ls (.ref a :: rest))) : W p l e R s m args below meth c H locs cells slots Q (F0 m pc ls st0) := by
  subst hst
  refine r_size (fun h1 h2 => ?_)
  refine va_callr (va_runS (As := As) (rest := rest) ⟨X.1.1, X.1.2.1, X.1.2.2.1, X.1.2.2.2.1, X.1.2.2.2.2.1⟩ hM (va_cwS np X.1.2.2.2.2.1 hG rfl hrc.1 hrc.2 hy hR) ⟨sg_blind, fun U hU hW => ⟨rfl, sg_pre X S h1 h2 hU hW⟩⟩ rfl hn hls rfl (lv_room hro) hd hf) S.2.2.1 (fun _ _ h => h) (fun _ h => h) (fun u rr t H1 locs1 ht hvm hw hB hz1 hk1 hS => ?_)
  obtain ⟨rfl, hB⟩ := hB
  exact kk H1 locs1 ⟨by rw [← ht]; exact hB.1, S.2.1, hS, by have := S.2.2.2; omega⟩
end RT
def cp_f (f : Nat → Int32) (L : Nat) : Nat → Int32 := fun j => if j < L then f j else 0
set_option maxRecDepth 100000 in
set_option maxHeartbeats 4000000 in
theorem k_copyOf {l : Launch} {G : cx_T} {M : Nat → va_E} {k n : Nat} {f : Nat → Int32} {x : Int32} (hk : k < n) (f0 : M k = .inl (cx_c G 0, 160, .inl f)) (hx : ix_in x 160 = true) : cg_m l G n yJ7_copyOf_59c91 cJ7_copyOf_59c91 3 (some (.array .int)) ({ frames := 1, cells := 1, slots := 160, locals := 60 }) [.ref (cx_b G + k), .int x] M (cg_qr G (n + 1) (va_up M n (.inl (cx_c G 0, x.toNatClampNeg, .inl (cp_f f x.toNatClampNeg)))) (cx_b G + n)) 1 160 := by
  refine cg_en (by decide) (Nat.le_of_ble_eq_true rfl) ?_
  intro p e s m args below meth c ls hin2 X S hl
  have X : cx_oi G p s m args meth c cJ7_copyOf_59c91 3 RJ7 (some (.array .int)) := X
  have hl : lv_has ls 3 [(0, .ref (cx_b G + k)), (1, .int x)] := hl
  obtain ⟨L, hL, rfl⟩ : ∃ L, L < 160 ∧ x = nI L := by
    have h1 := ix_lt hx
    have h0 : ¬ x < 0 := fun q => (of_decide_eq_true hx) (Or.inl q)
    obtain ⟨j, hj, rfl⟩ := nI_of h0
    rw [nI_clamp hj] at h1
    exact ⟨j, h1, rfl⟩
  have hcl : (nI L).toNatClampNeg = L := nI_clamp (by omega)
  rw [hcl]
  refine lv_iload_n X.1.1 X.1.2.1 dJ7_copyOf_59c91_0 rfl (lv_at hl 1 rfl) ?_
  refine lv_aload_n X.1.1 X.1.2.1 dJ7_copyOf_59c91_1 rfl (lv_at hl 0 rfl) ?_
  refine sg_alen X S hk f0 rfl dJ7_copyOf_59c91_2 ?_
  refine lv_icmp_ne (tgt := 14) X.1.1 X.1.2.1 dJ7_copyOf_59c91_3 (by decide) (fun cq => ?_) (fun cq => ?_)
  rotate_left
  · exfalso
    first
      | exact cq (fun q => absurd ((nI_eq (b := 160) (by omega) (by decide)).mp q) (by omega))
      | exact absurd ((nI_eq (b := 160) (by omega) (by decide)).mp cq) (by omega)
      | exact absurd ((nI_eq (b := 160) (by omega) (by decide)).mp (Decidable.of_not_not cq)) (by omega)
  refine lv_iload_n X.1.1 X.1.2.1 dJ7_copyOf_59c91_14 rfl (lv_at hl 1 rfl) ?_
  have S := S.to (M' := va_up M n (.inl (cx_c G 0, L, .inl (fun _ => 0)))) (fun j hj => by rw [up_ne (by omega)])
  refine sg_newi (N := L) X S (up_at rfl) (nI_pos (by omega)) hcl (by omega) (Nat.le_of_ble_eq_true rfl) (by show 0 + L ≤ 160; omega) ac_i dJ7_copyOf_59c91_15 (fun H S => ?_)
  refine lv_astore_n (lv' := [(2, .ref (cx_b G + n)), (0, .ref (cx_b G + k)), (1, .int (nI L))]) X.1.1 X.1.2.1 dJ7_copyOf_59c91_17 rfl hl (by decide) rfl (fun ls hl => ?_)
  refine lv_aload_n X.1.1 X.1.2.1 dJ7_copyOf_59c91_18 rfl (lv_at hl 1 rfl) ?_
  refine lv_iconst (v := 0) X.1.1 X.1.2.1 dJ7_copyOf_59c91_19 (by decide) ?_
  refine lv_aload_n X.1.1 X.1.2.1 dJ7_copyOf_59c91_20 rfl (lv_at hl 0 rfl) ?_
  refine lv_iconst (v := 0) X.1.1 X.1.2.1 dJ7_copyOf_59c91_21 (by decide) ?_
  refine lv_aload_n X.1.1 X.1.2.1 dJ7_copyOf_59c91_22 rfl (lv_at hl 1 rfl) ?_
  have f1 : va_up M n (.inl (cx_c G 0, L, .inl (fun _ => 0))) k = .inl (cx_c G 0, 160, .inl f) := by rw [up_ne (by omega)]; exact f0
  refine sg_alen X S (by omega) f1 rfl dJ7_copyOf_59c91_23 ?_
  refine lv_iload_n X.1.1 X.1.2.1 dJ7_copyOf_59c91_24 rfl (lv_at hl 2 rfl) ?_
  refine sg_min X hl.1 mk_J7_304 (Nat.le_of_ble_eq_true rfl) (Nat.le_of_ble_eq_true rfl) (Nat.le_of_ble_eq_true rfl) (by show 0 + L ≤ 160; omega) dJ7_copyOf_59c91_25 ?_
  have hmin : (if nI L < Int32.ofNat 160 then nI L else Int32.ofNat 160) = nI L := if_pos (show nI L < nI 160 from nI_lt hL (by decide))
  rw [hmin]
  refine sg_copy X S (by omega) (by omega) f1 (up_at rfl) hl.1 mc_J7_150 (by
    unfold pz_cp
    refine decide_eq_true ⟨by decide, by decide, nI_pos (by omega), ?_, ?_⟩
    · rw [hcl]; show 0 + L ≤ 160; omega
    · rw [hcl]; show 0 + L ≤ L; omega) (Nat.le_of_ble_eq_true rfl) (Nat.le_of_ble_eq_true rfl) dJ7_copyOf_59c91_28 (fun H locs S => ?_)
  rw [hcl] at S
  refine lv_aload_n X.1.1 X.1.2.1 dJ7_copyOf_59c91_31 rfl (lv_at hl 0 rfl) ?_
  refine W.widen (k := 1) (n := 160) (by omega) (by omega) ?_
  refine sg_aret (Or.inr ⟨_, rfl⟩) X S rfl (fun j hj => ?_) dJ7_copyOf_59c91_32
  by_cases hjn : j = n
  · subst hjn
    right
    refine ⟨_, _, _, _, up_at rfl, up_at rfl, fun i hi => ?_⟩
    unfold va_cpy cp_f
    rw [if_pos hi, if_pos ⟨Nat.zero_le _, by show i < 0 + L; omega⟩]
    show f (0 + (i - 0)) = f i
    rw [Nat.zero_add, Nat.sub_zero]
  · left
    rw [up_ne hjn, up_ne hjn, up_ne hjn]
/-! made -/
def md_7 (I : mm_T) : Nat → Int32 := fun j => if j = 1 then I 3 0 4 else if j = 2 then I 3 0 5 else 0
def md_28 (I : mm_T) : Nat → Int32 := fun j => if j = 1000 then I 3 0 3 else I 19 0 j
def md_I (I : mm_T) (t : Nat) : mm_T := mm_row (mm_row (mm_row I 7 t (md_7 I)) 28 t (md_28 I)) 29 t (fun _ => 0)
/-- where the next text goes -/
def md_at (n t : Nat) : Prop := (n = 111 ∧ t = 0) ∨ (n = 3 * t + 141 ∧ 1 ≤ t)
theorem md_ok {n t : Nat} (h : md_at n t) : ly_loc 7 t = n ∧ ly_loc 28 t = n + 1 ∧ ly_loc 29 t = n + 2 ∧ ly_ok (n + 3) 7 t ∧ ly_ok (n + 3) 28 t ∧ ly_ok (n + 3) 29 t := by
  rcases h with ⟨rfl, rfl⟩ | ⟨h1, h2⟩
  · exact ⟨rfl, rfl, rfl, ⟨by decide +kernel, by decide +kernel⟩, ⟨by decide +kernel, by decide +kernel⟩, ⟨by decide +kernel, by decide +kernel⟩⟩
  · refine ⟨?_, ?_, ?_, ly_ok_7 (by omega), ly_ok_28 (by omega), ly_ok_29 (by omega)⟩
    · show (if t = 0 then 111 else 141 + 3 * t) = n; rw [if_neg (by omega)]; omega
    · show (if t = 0 then 112 else 142 + 3 * t) = n + 1; rw [if_neg (by omega)]; omega
    · show (if t = 0 then 113 else 143 + 3 * t) = n + 2; rw [if_neg (by omega)]; omega
theorem md_n {n t : Nat} (h : md_at n t) : 111 ≤ n := by unfold md_at at h; omega
set_option maxRecDepth 100000 in
set_option maxHeartbeats 4000000 in
theorem md_world {G : cx_T} {I J : mm_T} {n t : Nat} (h : md_at n t) {j : Nat} (hj : j < n + 3) {M : Nat → va_E} (hM : ∀ i, i < n → M i = ly_cell G (mm_mx I J) i) (h1 : M (n + 1) = .inl (cx_c G 0, (I 3 0 3).toNatClampNeg, .inl (cp_f (I 19 0) (I 3 0 3).toNatClampNeg))) (hL : (I 3 0 3).toNatClampNeg < 1000) : mk_X7 G M n (n + 1 + 1) (n + 1) (I 3 0 4) (I 3 0 5) j = ly_cell G (mm_mx (md_I I t) J) j ∨ ∃ (cA : ClassId) (L : Nat) (f c : Nat → Int32), mk_X7 G M n (n + 1 + 1) (n + 1) (I 3 0 4) (I 3 0 5) j = .inl (cA, L, .inl f) ∧ ly_cell G (mm_mx (md_I I t) J) j = .inl (cA, L, .inl c) ∧ ∀ i, i < L → f i = c i := by
  obtain ⟨e7, e28, e29, o7, o28, o29⟩ := md_ok h
  have hcell : ly_cell G (mm_mx (md_I I t) J) = va_up (va_up (va_up (ly_cell G (mm_mx I J)) n (ly_K G 7 t (md_7 I))) (n + 1) (ly_K G 28 t (md_28 I))) (n + 2) (ly_K G 29 t (fun _ => 0)) := by
    unfold md_I
    rw [mm_mx_rowI rfl, ly_up o29, e29, mm_mx_rowI rfl, ly_up o28, e28, mm_mx_rowI rfl, ly_up o7, e7]
  rw [hcell]
  rcases Nat.lt_or_ge j n with q | q
  · left
    rw [mk_X7_old (by omega) (by omega), up_ne (by omega), up_ne (by omega), up_ne (by omega)]
    exact hM j q
  · rcases (show j = n ∨ j = n + 1 ∨ j = n + 2 by omega) with q | q | q
    · left
      rw [q, mk_X7_at (by omega), up_ne (by omega), up_ne (by omega), up_at rfl]
      show _ = Sum.inr (7, [Value.ref (cx_b G + ly_loc 28 t), Value.int (md_7 I 1), Value.int (md_7 I 2), Value.ref (cx_b G + ly_loc 29 t)])
      rw [e28, e29]
      rfl
    · right
      rw [q, mk_X7_old (by omega) (by omega), up_ne (by omega), up_at rfl, h1]
      refine ⟨cx_c G 0, (I 3 0 3).toNatClampNeg, cp_f (I 19 0) (I 3 0 3).toNatClampNeg, md_28 I, rfl, ?_, fun i hi => ?_⟩
      · show Sum.inl (cx_c G 0, (md_28 I 1000).toNatClampNeg, Sum.inl (md_28 I)) = _
        rfl
      · unfold cp_f md_28
        rw [if_pos hi, if_neg (by omega)]
    · left
      rw [q, mk_X7_n (by omega), up_at rfl]
      rfl
set_option maxRecDepth 100000 in
set_option maxHeartbeats 4000000 in
theorem k_made {l : Launch} {G : cx_T} {I J : mm_T} {n t : Nat} (ht : md_at n t) (hg : ix_in (I 3 0 3) 160 = true) : cg_m l G n yX3_made cX3_made 1 (some (.object "WhoSingsNext$Text")) ({ frames := 2, cells := 3, slots := 195, locals := 100 }) [.ref (cx_b G + ly_loc 3 0)] (ly_cell G (mm_mx I J)) (cg_qr G (n + 3) (ly_cell G (mm_mx (md_I I t) J)) (cx_b G + ly_loc 7 t)) 3 195 := by
  refine cg_en (by decide) (Nat.le_of_ble_eq_true rfl) ?_
  intro p e s m args below meth c ls hin2 X S hl
  have X : cx_oi G p s m args meth c cX3_made 1 RX3 (some (.object "WhoSingsNext$Text")) := X
  have hl : lv_has ls 1 [(0, .ref (cx_b G + ly_loc 3 0))] := hl
  have hn := md_n ht
  have e7 := (md_ok ht).1
  have fr : ly_cell G (mm_mx I J) (ly_loc 3 0) = ly_K G 3 0 (I 3 0) := by rw [ly_at (ly_ok_3 (n := n) (by decide) hn)]; rfl
  have fc : ly_cell G (mm_mx I J) (ly_loc 19 0) = ly_K G 19 0 (I 19 0) := by rw [ly_at (ly_ok_19 (n := n) (by decide) hn)]; rfl
  have l3 : ly_loc 3 0 = 37 := rfl
  have l19 : ly_loc 19 0 = 39 := rfl
  obtain ⟨M, eM⟩ : ∃ z, z = va_up (ly_cell G (mm_mx I J)) n (.inr (7, [.null, .int 0, .int 0, .null])) := ⟨_, rfl⟩
  have S := S.to (M' := M) (fun j hj => by rw [eM, up_ne (by omega)])
  have g0 : M n = .inr (7, [.null, .int 0, .int 0, .null]) := by rw [eM]; exact up_at rfl
  have g3 : M (ly_loc 3 0) = ly_K G 3 0 (I 3 0) := by rw [eM, up_ne (by omega)]; exact fr
  have g19 : M (ly_loc 19 0) = ly_K G 19 0 (I 19 0) := by rw [eM, up_ne (by omega)]; exact fc
  refine sg_new X S g0 (show vwCl[7]? = some (RX7, TX7, 4) from rfl) in_X7 tyX7 tyX7_ok kl_X3_54 nu_X7.1 nu_X7.2 df_X7 (Nat.le_of_ble_eq_true rfl) (Nat.le_of_ble_eq_true rfl) dX3_made_0 (fun H S => ?_)
  refine lv_dup X.1.1 X.1.2.1 dX3_made_3 rfl ?_
  refine lv_aload_n X.1.1 X.1.2.1 dX3_made_4 rfl (lv_at hl 0 rfl) ?_
  refine sg_get X S (by omega) g3 (show vwCl[3]? = some (RX3, TX3, 11) from rfl) in_X3 2 (by decide) lk_X3_15 rfl dX3_made_5 ?_
  refine lv_aload_n X.1.1 X.1.2.1 dX3_made_8 rfl (lv_at hl 0 rfl) ?_
  refine sg_get X S (by omega) g3 (show vwCl[3]? = some (RX3, TX3, 11) from rfl) in_X3 3 (by decide) lk_X3_22 rfl dX3_made_9 ?_
  refine sg_callSr (n1 := n + 1 + 1) (M1 := va_up M (n + 1) (.inl (cx_c G 0, (I 3 0 3).toNatClampNeg, .inl (cp_f (I 19 0) (I 3 0 3).toNatClampNeg)))) X S (k_copyOf (k := ly_loc 19 0) (n := n + 1) (f := I 19 0) (by omega) g19 hg) rfl gd_X3_56 ny_J7_copyOf_59c91 ⟨rfl, rfl⟩ ⟨Nat.le_of_ble_eq_true rfl, Nat.le_of_ble_eq_true rfl⟩ rfl (rest := [.ref (cx_b G + n), .ref (cx_b G + n)]) rfl hl.1 (Nat.le_of_ble_eq_true rfl) dX3_made_12 ⟨Nat.le_of_ble_eq_true rfl, Nat.le_of_ble_eq_true rfl⟩ (fun H locs S => ?_)
  obtain ⟨M2, eM2⟩ : ∃ z, z = va_up M (n + 1) (.inl (cx_c G 0, (I 3 0 3).toNatClampNeg, .inl (cp_f (I 19 0) (I 3 0 3).toNatClampNeg))) := ⟨_, rfl⟩
  rw [← eM2] at S
  have h0 : M2 n = .inr (7, [.null, .int 0, .int 0, .null]) := by rw [eM2, up_ne (by omega)]; exact g0
  have h3 : M2 (ly_loc 3 0) = ly_K G 3 0 (I 3 0) := by rw [eM2, up_ne (by omega)]; exact g3
  have h1 : M2 (n + 1) = .inl (cx_c G 0, (I 3 0 3).toNatClampNeg, .inl (cp_f (I 19 0) (I 3 0 3).toNatClampNeg)) := by rw [eM2]; exact up_at rfl
  refine lv_aload_n X.1.1 X.1.2.1 dX3_made_15 rfl (lv_at hl 0 rfl) ?_
  refine sg_get X S (by omega) h3 (show vwCl[3]? = some (RX3, TX3, 11) from rfl) in_X3 4 (by decide) lk_X3_42 rfl dX3_made_16 ?_
  refine lv_aload_n X.1.1 X.1.2.1 dX3_made_19 rfl (lv_at hl 0 rfl) ?_
  refine sg_get X S (by omega) h3 (show vwCl[3]? = some (RX3, TX3, 11) from rfl) in_X3 5 (by decide) lk_X3_45 rfl dX3_made_20 ?_
  refine sg_callI (n1 := n + 1 + 1 + 1) (M1 := mk_X7 G M2 n (n + 1 + 1) (n + 1) (I 3 0 4) (I 3 0 5)) X S (k_X7 (k := n) (n := n + 1 + 1) (h := n + 1) (vt := I 3 0 4) (vf := I 3 0 5) (by omega) h0) rfl il_X3_62 ii_X7_init.1 ii_X7_init.2 cw_X7_init rfl iy_X7_init ⟨rfl, rfl⟩ ⟨Nat.le_of_ble_eq_true rfl, Nat.le_of_ble_eq_true rfl⟩ rfl (rest := [.ref (cx_b G + n)]) rfl hl.1 (Nat.le_of_ble_eq_true rfl) dX3_made_23 ⟨Nat.le_of_ble_eq_true rfl, Nat.le_of_ble_eq_true rfl⟩ (fun H locs S => ?_)
  rw [e7]
  refine sg_aret (Or.inl ⟨_, rfl⟩) X S rfl (fun j hj => md_world ht hj (fun i hi => by rw [eM2, up_ne (by omega), eM, up_ne (by omega)]) h1 (Nat.lt_trans (ix_lt hg) (by decide))) dX3_made_26
