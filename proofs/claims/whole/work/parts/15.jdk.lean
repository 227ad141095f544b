theorem lk_J0_9 : Cond.fieldLink RJ0 9 "java/lang/String" "value" "[B" ∈ gw_t := gw_mem 1419 (by decide +kernel) (by decide +kernel)
theorem lk_J0_15 : Cond.fieldLink RJ0 15 "java/lang/String" "coder" "B" ∈ gw_t := gw_mem 1420 (by decide +kernel) (by decide +kernel)
theorem lk_J0_38 : Cond.fieldLink RJ0 38 "java/lang/String" "COMPACT_STRINGS" "Z" ∈ gw_t := gw_mem 334 (by decide +kernel) (by decide +kernel)
theorem lk_J0_1053 : Cond.fieldLink RJ0 1053 "jdk/internal/util/Preconditions" "SIOOBE_FORMATTER" "Ljava/util/function/BiFunction;" ∈ gw_t := gw_mem 350 (by decide +kernel) (by decide +kernel)
def pz_nc (v : Int32) : Bool := decide ((v.toUInt32 % 65536).toInt32 = v)
theorem pz_ncn {v : Int32} (h : pz_nc v = true) : narrow .char (.int v) = .int v := by
  unfold pz_nc at h
  have h := of_decide_eq_true h
  have h2 := pk_nc v
  rw [h] at h2
  exact h2
def pz_nb (v : Int32) : Bool := decide (v.toInt8.toInt32 = v)
theorem pz_nbn {v : Int32} (h : pz_nb v = true) : narrow .byte (.int v) = .int v := by
  unfold pz_nb at h
  have h := of_decide_eq_true h
  have h2 := pk_nb v
  rw [h] at h2
  exact h2
def pz_fill (f : Nat → Int32) (n : Nat) (v : Int32) : Nat → Int32 := fun j => if j < n then v else f j
theorem pz_fill_0 (f : Nat → Int32) (v : Int32) : pz_fill f 0 v = f := by funext j; unfold pz_fill; rw [if_neg (Nat.not_lt_zero j)]
theorem pz_fill_s (f : Nat → Int32) (n : Nat) (v : Int32) : upd (pz_fill f n v) n v = pz_fill f (n + 1) v := by
  funext j
  unfold upd pz_fill
  by_cases h : j = n
  · subst h; rw [if_pos rfl, if_pos (Nat.lt_succ_self _)]
  · rw [if_neg h]
    by_cases h2 : j < n
    · rw [if_pos h2, if_pos (by omega)]
    · rw [if_neg h2, if_neg (by omega)]
theorem mm_row_row {I : mm_T} {k i : Nat} {f g : Nat → Int32} : mm_row (mm_row I k i f) k i g = mm_row I k i g := by
  funext a
  by_cases ha : a = k
  · subst ha; funext b
    by_cases hb : b = i
    · subst hb; rw [mm_row_at, mm_row_at]
    · rw [mm_row_ni hb, mm_row_ni hb, mm_row_ni hb]
  · rw [mm_row_ne ha, mm_row_ne ha, mm_row_ne ha]
theorem mm_row_self {I : mm_T} {k i : Nat} : mm_row I k i (I k i) = I := by
  funext a
  by_cases ha : a = k
  · subst ha; funext b
    by_cases hb : b = i
    · subst hb; rw [mm_row_at]
    · rw [mm_row_ni hb]
  · rw [mm_row_ne ha]
section RJ
variable {p : Program} {l : Launch} {e : Env} {R : Room} {s : State} {m : MethodId} {args : Array Value} {below : List Frame} {meth : Method} {c : Code} {H : Heap} {locs : List Loc} {cells slots : Nat} {Q : State → Prop}
variable {cc : ByteArray} {pc : Nat} {ls : Array Slot} {rest : List Value} {G : cx_T} {n nL : Nat} {I J : mm_T} {own : String} {ret : Option FieldType}
theorem r_svalue (X : cx_ok G p s m args meth c cc nL own ret) (S : st_ok G n I J s H locs) {k idx : Nat} (hk : k < 14) (hlk : Cond.fieldLink own idx "java/lang/String" "value" "[B" ∈ gw_t) (hd : decode cc pc = .ok (.getfield idx, 3)) (kk : W p l e R s m args below meth c H locs cells slots Q (F0 m (pc + 3) ls (.ref (cx_V G k) :: rest))) : W p l e R s m args below meth c H locs cells slots Q (F0 m pc ls (.ref (cx_K G k) :: rest)) :=
  vk_getf X.1 X.2.1 (X.2.2.2.2.2.1.2.1.1 k hk).2.2.1 S.2.2.1 X.2.2.2.1 (X.2.2.2.2.1 _ hlk) (fun _ h => h) hd kk
theorem r_scoder (X : cx_ok G p s m args meth c cc nL own ret) (S : st_ok G n I J s H locs) {k idx : Nat} (hk : k < 14) (hlk : Cond.fieldLink own idx "java/lang/String" "coder" "B" ∈ gw_t) (hd : decode cc pc = .ok (.getfield idx, 3)) (kk : W p l e R s m args below meth c H locs cells slots Q (F0 m (pc + 3) ls (.int 0 :: rest))) : W p l e R s m args below meth c H locs cells slots Q (F0 m pc ls (.ref (cx_K G k) :: rest)) :=
  vk_getf X.1 X.2.1 (X.2.2.2.2.2.1.2.1.1 k hk).2.1 S.2.2.1 X.2.2.2.1 (X.2.2.2.2.1 _ hlk) (fun _ h => h) hd kk
theorem r_slen (X : cx_ok G p s m args meth c cc nL own ret) (S : st_ok G n I J s H locs) {k : Nat} (hk : k < 14) (hd : decode cc pc = .ok (.arraylength, 1)) (kk : W p l e R s m args below meth c H locs cells slots Q (F0 m (pc + 1) ls (.int (Int32.ofNat (cx_len.getD k 0)) :: rest))) : W p l e R s m args below meth c H locs cells slots Q (F0 m pc ls (.ref (cx_V G k) :: rest)) :=
  va_tlen X.1 X.2.1 (X.2.2.2.2.2.1.2.1.1 k hk).2.2.2 S.2.2.1 rfl hd kk
theorem r_sbyte (X : cx_ok G p s m args meth c cc nL own ret) (S : st_ok G n I J s H locs) {k : Nat} (hk : k < 14) {x : Int32} (hx : ix_in x (cx_len.getD k 0) = true) (hd : decode cc pc = .ok (.baload, 1)) (kk : W p l e R s m args below meth c H locs cells slots Q (F0 m (pc + 1) ls (.int ((cx_byt.getD k []).getD x.toNatClampNeg 0) :: rest))) : W p l e R s m args below meth c H locs cells slots Q (F0 m pc ls (.int x :: .ref (cx_V G k) :: rest)) :=
  va_tb X.1 X.2.1 (X.2.2.2.2.2.1.2.1.1 k hk).2.2.2 S.2.2.1 (ix_vp hx) rfl hd kk
theorem r_scomp (X : cx_ok G p s m args meth c cc nL own ret) (S : st_ok G n I J s H locs) {idx : Nat} (hlk : Cond.fieldLink own idx "java/lang/String" "COMPACT_STRINGS" "Z" ∈ gw_t) (hd : decode cc pc = .ok (.getstatic idx, 3)) (kk : W p l e R s m args below meth c H locs cells slots Q (F0 m (pc + 3) ls (.int 1 :: rest))) : W p l e R s m args below meth c H locs cells slots Q (F0 m pc ls rest) :=
  va_gets X.1 X.2.1 X.2.2.2.2.2.1.2.2.2.1 S.2.2.1 X.2.2.2.1 (X.2.2.2.2.1 _ hlk) (fun _ h => h) hd kk
theorem r_sfmt (X : cx_ok G p s m args meth c cc nL own ret) (S : st_ok G n I J s H locs) {idx : Nat} (hlk : Cond.fieldLink own idx "jdk/internal/util/Preconditions" "SIOOBE_FORMATTER" "Ljava/util/function/BiFunction;" ∈ gw_t) (hd : decode cc pc = .ok (.getstatic idx, 3)) (kk : ∀ v : Value, (v = .null ∨ ∃ a, v = .ref a) → W p l e R s m args below meth c H locs cells slots Q (F0 m (pc + 3) ls (v :: rest))) : W p l e R s m args below meth c H locs cells slots Q (F0 m pc ls rest) := by
  rcases X.2.2.2.2.2.1.2.2.2.2.1 with hz | ⟨t, hz⟩
  · exact va_gets X.1 X.2.1 hz S.2.2.1 X.2.2.2.1 (X.2.2.2.2.1 _ hlk) (fun _ h => h) hd (kk _ (Or.inl rfl))
  · exact va_gets X.1 X.2.1 hz S.2.2.1 X.2.2.2.1 (X.2.2.2.2.1 _ hlk) (fun _ h => h) hd (kk _ (Or.inr ⟨_, rfl⟩))
theorem r_srecv (X : cx_ok G p s m args meth c cc nL own ret) (S : st_ok G n I J s H locs) {k : Nat} (hk : k < 14) : ∃ cell : Cell, H[cx_K G k]? = some cell ∧ cell.vm.isStatics = false ∧ s.vm.findClass "java/lang/String" = some cell.cls :=
  vk_recv X.2.2.2.2.2.1.2.1 hk S.2.2.1
theorem r_nret {ty : FieldType} (X : cx_ok G p s m args meth c cc nL own (some ty)) (S : st_ok G n I J s H locs) {v : Int32} (hv : narrow ty (.int v) = .int v) (hd : decode cc pc = .ok (.ireturn, 1)) : W p l e R s m args below meth c H locs 0 0 (MQ below (ct_qi G n I J v) args s 0 0 (cx_A G)) (F0 m pc ls [.int v]) :=
  r_size (fun h1 h2 => W.zret X.1 X.2.1 X.2.2.2.2.2.2.1 hv (fun t ht hW => ⟨⟨v, (), rfl, rfl, S.wd h1 h2 ht⟩, S.2.2.1.F ht⟩) S.2.2.1.2.2 hd X.2.2.2.2.2.2.2)
/-- what System.arraycopy wants -/
def pz_cp (sp dp k : Int32) (n0 n1 : Nat) : Bool := decide (¬ sp < 0 ∧ ¬ dp < 0 ∧ ¬ k < 0 ∧ sp.toNatClampNeg + k.toNatClampNeg ≤ n0 ∧ dp.toNatClampNeg + k.toNatClampNeg ≤ n1)
theorem ac_w : Cond.native arraycopyName ∈ gw_t ∧ Cond.static arraycopyName ∈ gw_t ∧ Cond.initialized "java/lang/System" ∈ gw_t := ⟨gw_mem 528 (by decide +kernel) (by decide +kernel), gw_mem 527 (by decide +kernel) (by decide +kernel), gw_mem 78 (by decide +kernel) (by decide +kernel)⟩
theorem r_copy (X : cx_ok G p s m args meth c cc nL own ret) (S : st_ok G n I J s H locs) {k0 i0 k1 i1 n0 n1 idx : Nat} (ho0 : ly_ok n k0 i0) (ho1 : ly_ok n k1 i1) (hm0 : mm_m k0 = false) (hm1 : mm_m k1 = false) (hf0 : ∀ f : Nat → Int32, ly_K G k0 i0 f = .inl (cx_c G 0, n0, .inl f)) (hf1 : ∀ f : Nat → Int32, ly_K G k1 i1 f = .inl (cx_c G 0, n1, .inl f)) (hls : ls.size = nL) (hk : Cond.methodLink own idx arraycopyName ∈ gw_t) {sp dp k : Int32} (g : pz_cp sp dp k n0 n1 = true) (hfr : 1 ≤ R.frames) (hlo : (rest.map fun v => v.category).sum + (nativeFrameWords "java/lang/System" "arraycopy" 5 + 11) ≤ R.locals) (hd : decode cc pc = .ok (.invokestatic idx, 3))
    (kk : ∀ (I1 : mm_T) (H1 : Heap) (locs1 : List Loc), I1 = mm_row I k1 i1 (va_cpy (I k0 i0) (I k1 i1) sp.toNatClampNeg dp.toNatClampNeg k.toNatClampNeg) → st_ok G n I1 J s H1 locs1 → W p l e R s m args below meth c H1 locs1 cells slots Q (F0 m (pc + 3) ls rest)) : W p l e R s m args below meth c H locs cells slots Q (F0 m pc ls (.int k :: .int dp :: .ref (cx_b G + ly_loc k1 i1) :: .int sp :: .ref (cx_b G + ly_loc k0 i0) :: rest)) := by
  unfold pz_cp at g
  obtain ⟨g1, g2, g3, g4, g5⟩ := of_decide_eq_true g
  refine va_copyi X.1 X.2.1 (X.2.2.1.trans hls.symm) X.2.2.2.1 (X.2.2.2.2.1 _ hk) (X.2.2.2.2.1 _ ac_w.1) (X.2.2.2.2.1 _ ac_w.2.1) (X.2.2.2.2.1 _ ac_w.2.2) X.2.2.2.2.2.1.1 S.1 gm_D S.2.2.1 (ly_loc k0 i0) (ly_loc k1 i1) 0 0 (by rw [ly_get ho0, hf0]) (by rw [ly_get ho1, hf1]) rfl (ty := .int) rfl rfl g1 g2 g3 g4 g5 (fun _ _ => rfl) hfr hlo hd (fun H1 locs1 hP _ hS => ?_)
  rw [ly_set ho1 (hf1 _)] at hP
  refine kk _ H1 locs1 rfl (st_rowI S hm1 ?_ hS)
  rw [mm_mx_I hm0, mm_mx_I hm1] at hP
  exact hP
end RJ
set_option maxRecDepth 100000 in
set_option maxHeartbeats 4000000 in
theorem w_fill {l : Launch} {G : cx_T} {p : Program} {e : Env} {s : State} {m : MethodId} {args : Array Value} {below : List Frame} {meth : Method} {c : Code} {n k i N : Nat} {I J : mm_T} (X : cx_ok G p s m args meth c cJ7_fill_53178 4 RJ7 none) (ho : ly_ok n k i) (hm : mm_m k = false) (hf : ∀ f : Nat → Int32, ly_K G k i f = .inl (cx_c G 0, N, .inl f)) (hN : N < 2 ^ 31) {v : Int32} : ∀ (cnt j : Nat) {x : Int32} {I1 : mm_T} {H : Heap} {locs : List Loc} {ls : Array Slot}, N ≤ j + cnt → j ≤ N → x = nI j → I1 = mm_row I k i (pz_fill (I k i) j v) → st_ok G n I1 J s H locs → lv_has ls 4 [(0, .ref (cx_b G + ly_loc k i)), (1, .int v), (2, .int x), (3, .int (Int32.ofNat N))] → W p l e ({ frames := 0, cells := 0, slots := 0, locals := 0 }) s m args below meth c H locs 0 0 (MQ below (ct_qv G n (mm_row I k i (pz_fill (I k i) N v)) J) args s 0 0 (cx_A G)) (F0 m 5 ls []) := by
  intro cnt
  induction cnt with
  | zero =>
    intro j x I1 H locs ls h1 h2 ex eI S hl
    have hj : j = N := by omega
    subst hj
    refine lv_iload_n X.1 X.2.1 dJ7_fill_53178_5 rfl (lv_at hl 2 rfl) ?_
    refine lv_iload_n X.1 X.2.1 dJ7_fill_53178_6 rfl (lv_at hl 3 rfl) ?_
    refine lv_icmp_ge (tgt := 20) X.1 X.2.1 dJ7_fill_53178_7 (by decide) (fun cq => ?_) (fun cq => ?_)
    · rw [eI] at S
      exact r_vret X S dJ7_fill_53178_20
    · exact absurd (by rw [ex]; exact nI_le (Nat.le_refl _) hN) cq
  | succ cnt ih =>
    intro j x I1 H locs ls h1 h2 ex eI S hl
    refine lv_iload_n X.1 X.2.1 dJ7_fill_53178_5 rfl (lv_at hl 2 rfl) ?_
    refine lv_iload_n X.1 X.2.1 dJ7_fill_53178_6 rfl (lv_at hl 3 rfl) ?_
    refine lv_icmp_ge (tgt := 20) X.1 X.2.1 dJ7_fill_53178_7 (by decide) (fun cq => ?_) (fun cq => ?_)
    · have hj : j = N := by
        rcases Nat.lt_or_ge j N with q | q
        · exact absurd (show nI N ≤ nI j by rw [← ex]; exact cq) (nI_ge q hN)
        · omega
      subst hj
      rw [eI] at S
      exact r_vret X S dJ7_fill_53178_20
    · have hj : j < N := by
        rcases Nat.lt_or_ge j N with q | q
        · exact q
        · exact absurd (by rw [ex]; exact nI_le q (by omega)) cq
      refine lv_aload_n X.1 X.2.1 dJ7_fill_53178_10 rfl (lv_at hl 0 rfl) ?_
      refine lv_iload_n X.1 X.2.1 dJ7_fill_53178_11 rfl (lv_at hl 2 rfl) ?_
      refine lv_iload_n X.1 X.2.1 dJ7_fill_53178_12 rfl (lv_at hl 1 rfl) ?_
      refine r_iastI X S ho hm hf (by rw [ex]; exact decide_eq_true (vp_in_nI hj hN)) dJ7_fill_53178_13 (fun I2 H locs eI2 S => ?_)
      obtain ⟨x2, ex2⟩ : ∃ y : Int32, y = x + 1 := ⟨_, rfl⟩
      refine lv_iinc (v := x2) (lv' := [(2, .int x2), (0, .ref (cx_b G + ly_loc k i)), (1, .int v), (3, .int (Int32.ofNat N))]) X.1 X.2.1 dJ7_fill_53178_14 hl (k := 2) rfl (by rw [ex2]; rfl) (by decide) rfl (fun ls hl => ?_)
      refine lv_goto (tgt := 5) X.1 X.2.1 dJ7_fill_53178_17 (by decide) ?_
      refine ih (j + 1) (by omega) hj (by rw [ex2, ex]; exact nI_1 j) ?_ S (lv_sub hl [1, 2, 0, 3] rfl)
      rw [eI2, eI]
      unfold mm_up
      rw [mm_row_row, mm_row_at, ex, nI_clamp (by omega), pz_fill_s]
set_option maxRecDepth 100000 in
theorem c_fill {l : Launch} {G : cx_T} {n k i N : Nat} {I J : mm_T} (ho : ly_ok n k i) (hm : mm_m k = false) (hf : ∀ f : Nat → Int32, ly_K G k i f = .inl (cx_c G 0, N, .inl f)) (hN : N < 2 ^ 31) {v : Int32} : ct_m l G n yJ7_fill_53178 cJ7_fill_53178 4 none ({ frames := 0, cells := 0, slots := 0, locals := 0 }) [.ref (cx_b G + ly_loc k i), .int v] I J (ct_qv G n (mm_row I k i (pz_fill (I k i) N v)) J) := by
  refine ct_en (by decide) (Nat.le_of_ble_eq_true rfl) ?_
  intro p e s m args below meth c ls X S hl
  have X : cx_ok G p s m args meth c cJ7_fill_53178 4 RJ7 none := X
  have hl : lv_has ls 4 [(0, .ref (cx_b G + ly_loc k i)), (1, .int v)] := hl
  refine lv_iconst (v := 0) X.1 X.2.1 dJ7_fill_53178_0 (by decide) ?_
  refine lv_istore_n (lv' := [(2, .int 0), (0, .ref (cx_b G + ly_loc k i)), (1, .int v)]) X.1 X.2.1 dJ7_fill_53178_1 rfl hl (by decide) rfl (fun ls hl => ?_)
  refine lv_aload_n X.1 X.2.1 dJ7_fill_53178_2 rfl (lv_at hl 1 rfl) ?_
  refine r_alen X S ho (hf _) rfl dJ7_fill_53178_3 ?_
  refine lv_istore_n (lv' := [(3, .int (Int32.ofNat N)), (2, .int 0), (0, .ref (cx_b G + ly_loc k i)), (1, .int v)]) X.1 X.2.1 dJ7_fill_53178_4 rfl hl (by decide) rfl (fun ls hl => ?_)
  exact w_fill X ho hm hf hN N 0 (by omega) (Nat.zero_le _) nI_0.symm (by rw [pz_fill_0, mm_row_self]) S (lv_sub hl [2, 3, 1, 0] rfl)
theorem sk_0 {G : cx_T} {s : State} (K : cx_Kx G s) : vk_R RX8 54 "bears 10 ; takes 2 + mood ; first waited - sung * 9 ;" (cx_K G 0) s := K.2.2.1 0 ("WhoSingsNext", 54, "bears 10 ; takes 2 + mood ; first waited - sung * 9 ;") rfl
theorem sk_1 {G : cx_T} {s : State} (K : cx_Kx G s) : vk_R RX3 107 "minute" (cx_K G 1) s := K.2.2.1 1 ("WhoSingsNext$Reader", 107, "minute") rfl
theorem sk_2 {G : cx_T} {s : State} (K : cx_Kx G s) : vk_R RX3 113 "waited" (cx_K G 2) s := K.2.2.1 2 ("WhoSingsNext$Reader", 113, "waited") rfl
theorem sk_3 {G : cx_T} {s : State} (K : cx_Kx G s) : vk_R RX3 115 "sung" (cx_K G 3) s := K.2.2.1 3 ("WhoSingsNext$Reader", 115, "sung") rfl
theorem sk_4 {G : cx_T} {s : State} (K : cx_Kx G s) : vk_R RX3 117 "sort" (cx_K G 4) s := K.2.2.1 4 ("WhoSingsNext$Reader", 117, "sort") rfl
theorem sk_5 {G : cx_T} {s : State} (K : cx_Kx G s) : vk_R RX3 119 "bar" (cx_K G 5) s := K.2.2.1 5 ("WhoSingsNext$Reader", 119, "bar") rfl
theorem sk_6 {G : cx_T} {s : State} (K : cx_Kx G s) : vk_R RX3 121 "mood" (cx_K G 6) s := K.2.2.1 6 ("WhoSingsNext$Reader", 121, "mood") rfl
theorem sk_7 {G : cx_T} {s : State} (K : cx_Kx G s) : vk_R RX3 123 "bears" (cx_K G 7) s := K.2.2.1 7 ("WhoSingsNext$Reader", 123, "bears") rfl
theorem sk_8 {G : cx_T} {s : State} (K : cx_Kx G s) : vk_R RX3 125 "takes" (cx_K G 8) s := K.2.2.1 8 ("WhoSingsNext$Reader", 125, "takes") rfl
theorem sk_9 {G : cx_T} {s : State} (K : cx_Kx G s) : vk_R RX3 127 "first" (cx_K G 9) s := K.2.2.1 9 ("WhoSingsNext$Reader", 127, "first") rfl
theorem sk_10 {G : cx_T} {s : State} (K : cx_Kx G s) : vk_R RX3 129 "or" (cx_K G 10) s := K.2.2.1 10 ("WhoSingsNext$Reader", 129, "or") rfl
theorem sk_11 {G : cx_T} {s : State} (K : cx_Kx G s) : vk_R RX3 131 "and" (cx_K G 11) s := K.2.2.1 11 ("WhoSingsNext$Reader", 131, "and") rfl
theorem sk_12 {G : cx_T} {s : State} (K : cx_Kx G s) : vk_R RX3 133 "not" (cx_K G 12) s := K.2.2.1 12 ("WhoSingsNext$Reader", 133, "not") rfl
theorem sk_13 {G : cx_T} {s : State} (K : cx_Kx G s) : vk_R RX3 99 "();+-*<=" (cx_K G 13) s := K.2.2.1 13 ("WhoSingsNext$Reader", 99, "();+-*<=") rfl
theorem mc_J7_150 : Cond.methodLink RJ7 150 arraycopyName ∈ gw_t := gw_mem 526 (by decide +kernel) (by decide +kernel)
theorem mc_X0_75 : Cond.methodLink RX0 75 arraycopyName ∈ gw_t := gw_mem 767 (by decide +kernel) (by decide +kernel)
theorem mc_X8_226 : Cond.methodLink RX8 226 arraycopyName ∈ gw_t := gw_mem 907 (by decide +kernel) (by decide +kernel)
