/-! ===== text() of the class: it makes a text ===== -/
section RLG
variable {p : Program} {l : Launch} {e : Env} {R : Room} {s : State} {m : MethodId} {args : Array Value} {below : List Frame} {meth : Method} {c : Code} {H : Heap} {locs : List Loc} {cells slots : Nat} {Q : State → Prop}
variable {cc : ByteArray} {pc : Nat} {ls : Array Slot} {rest : List Value} {G : cx_T} {n0 n nL : Nat} {M : Nat → va_E} {own : String} {ret : Option FieldType} {I J : mm_T}
theorem lg_get (X : cx_oi G p s m args meth c cc nL own ret) (S : lg_ok G n M s H locs) {k ci idx : Nat} (hk : k < n) {fs : List Value} (hM : M k = .inr (ci, fs)) {C : String} {T : u_T} {N : Nat} (hc : vwCl[ci]? = some (C, T, N)) (hin : ∀ w ∈ u_ws C T N, w ∈ gw_t) (j : Nat) (hj : j < N) (hw : Cond.fieldLink own idx (T j).1 (T j).2.1 (T j).2.2.1 ∈ gw_t) {v : Value} (hv : fs[j]? = some v) (hd : decode cc pc = .ok (.getfield idx, 3))
    (kk : W p l e R s m args below meth c H locs cells slots Q (F0 m (pc + 3) ls (v :: rest))) : W p l e R s m args below meth c H locs cells slots Q (F0 m pc ls (.ref (cx_b G + k) :: rest)) :=
  va_get (D := cx_D G) (ci := ci) (v := v) (C := C) (T := T) (N := N) X.1.1 X.1.2.1 X.1.2.2.2.2.1 hin X.1.2.2.2.1 X.1.2.2.2.2.2.1.1 S.1 k (by rw [gm_get hk, hM]) hc j hj (X.1.2.2.2.2.1 _ hw) (fun _ h => h) hv hd kk
theorem lg_getN (X : cx_oi G p s m args meth c cc nL own ret) (S : lg_ok G n M s H locs) {k ci idx : Nat} {host : String} (hk : k < n) {fs : List Value} (hM : M k = .inr (ci, fs)) {C : String} {T : u_T} {N : Nat} (hc : vwCl[ci]? = some (C, T, N)) (hin : ∀ w ∈ u_ws C T N, w ∈ gw_t) (j : Nat) (hj : j < N) (hw : Cond.fieldLinkNest own idx (T j).1 (T j).2.1 (T j).2.2.1 host ∈ nw_t) {v : Value} (hv : fs[j]? = some v) (hd : decode cc pc = .ok (.getfield idx, 3))
    (kk : W p l e R s m args below meth c H locs cells slots Q (F0 m (pc + 3) ls (v :: rest))) : W p l e R s m args below meth c H locs cells slots Q (F0 m pc ls (.ref (cx_b G + k) :: rest)) :=
  va_getN (D := cx_D G) (ci := ci) (v := v) (C := C) (T := T) (N := N) X.1.1 X.1.2.1 X.1.2.2.2.2.1 hin X.1.2.2.2.1 X.1.2.2.2.2.2.1.1 S.1 k (by rw [gm_get hk, hM]) hc j hj ((X.1.2.2.2.2.2.1.2.2.2.2.2 _ hw).use rfl) (fun _ h => h) hv hd kk
theorem lg_set {k : Nat} {ev : va_E} {H1 : Heap} {locs1 : List Loc} (S : lg_ok G n M s H locs) (hH : H1.size = H.size) (hP : va_P (cx_D G) vwCl ((gm_W (cx_b G) n M).set k (cx_b G + k, ev)) H1) (hS : va_S (cx_A G) s.heap H1 locs1) : lg_ok G n (va_up M k ev) s H1 locs1 := ⟨by rw [← gm_set]; exact hP, hH.trans S.2.1, hS, S.2.2.2⟩
/-- a write keeps the heap's size: by the room -/
theorem lg_iret (X : cx_oi G p s m args meth c cc nL own (some .int)) (S : lg_ok G n M s H locs) {v : Int32} {mc ms : Nat} (hc : cells ≤ mc) (hs : slots ≤ ms) (hd : decode cc pc = .ok (.ireturn, 1)) : W p l e R s m args below meth c H locs cells slots (MQ below (va_Qi (fun (x : Int32) (_ : Unit) => x = v) (fun _ => sg_w G n M) (cx_A G)) args s mc ms (cx_A G)) (F0 m pc ls [.int v]) := by
  refine W.widen (k := mc) (n := ms) hc hs ?_
  exact W.iret X.1.1 X.1.2.1 X.1.2.2.2.2.2.2.1 (fun t ht hW => ⟨⟨v, (), rfl, rfl, ⟨by rw [ht]; exact S.1, by rw [ht]; exact S.2.1⟩⟩, S.2.2.1.F ht⟩) S.2.2.1.2.2 hd X.1.2.2.2.2.2.2.2
end RLG
/-- what text() does: memory, answer, how many cells there are then -/
def tx_f (N n t : Nat) (I : mm_T) : Option (mm_T × Int32 × Nat) :=
  if (6 : Int32) ≤ I 8 0 5 then some (I, -4, n) else pz_bd (f_X3_readTape N n I) fun q => if q.2 = 0 then some (q.1, -100 - q.1 3 0 10, n) else pz_gd (ix_in (q.1 8 0 5) 6) <| pz_gd (ix_in (q.1 3 0 3) 160) <| pz_gd (decide (t < 1000)) <| some (mm_up (mm_up (md_I q.1 t) 20 0 (q.1 8 0 5).toNatClampNeg (nI t)) 8 0 5 (q.1 8 0 5 + 1), q.1 8 0 5 + 1 - 1, n + 3)
theorem tx_a2 {G : cx_T} {c : Nat → Int32} {t i : Nat} (ht : t < 1000) : va_up (fun j => if c j = -1 then none else some (cx_b G + ly_loc 7 (c j).toNatClampNeg)) i (some (cx_b G + ly_loc 7 t)) = fun j => if upd c i (nI t) j = -1 then none else some (cx_b G + ly_loc 7 (upd c i (nI t) j).toNatClampNeg) := by
  funext j
  unfold va_up upd
  by_cases h : j = i
  · subst h
    rw [if_pos rfl, if_pos rfl, nI_clamp (by omega), if_neg ?_]
    intro h
    have h2 := congrArg Int32.toInt h
    rw [nI_toInt (by omega)] at h2
    have h3 : (-1 : Int32).toInt = -1 := by decide
    omega
  · rw [if_neg h, if_neg h]
set_option maxRecDepth 100000 in
set_option maxHeartbeats 4000000 in
theorem k_text {l : Launch} {G : cx_T} {N n t : Nat} {I J : mm_T} {z : mm_T × Int32 × Nat} (ht : md_at n t) (hn : 144 ≤ n) (h : tx_f N n t I = some z) : cg_m l G n yX8_text cX8_text 1 (some .int) ({ frames := 100, cells := 3, slots := 195, locals := 4000 }) [.ref (cx_b G + ly_loc 8 0)] (ly_cell G (mm_mx I J)) (va_Qi (fun (x : Int32) (_ : Unit) => x = z.2.1) (fun _ => sg_w G z.2.2 (ly_cell G (mm_mx z.1 J))) (cx_A G)) 3 195 := by
  refine cg_en (by decide) (Nat.le_of_ble_eq_true rfl) ?_
  intro p e s m args below meth c ls hin2 X S hl
  have X : cx_oi G p s m args meth c cX8_text 1 RX8 (some .int) := X
  have hl : lv_has ls 1 [(0, .ref (cx_b G + ly_loc 8 0))] := hl
  have hsz := S.2.1
  have hn0 := md_n ht
  have o8 : ly_ok n 8 0 := ly_ok_8 (by decide) hn0
  have hk8 : ly_loc 8 0 < n := o8.2
  unfold tx_f at h
  refine lv_aload_n X.1.1 X.1.2.1 dX8_text_0 rfl (lv_at hl 0 rfl) ?_
  refine sg_get X S hk8 (show ly_cell G (mm_mx I J) (ly_loc 8 0) = ly_K G 8 0 (I 8 0) from ly_at o8) (show vwCl[8]? = some (RX8, TX8, 9) from rfl) in_X8 5 (by decide) lk_X8_78 rfl dX8_text_1 ?_
  refine lv_bipush (v := 6) X.1.1 X.1.2.1 dX8_text_4 (by decide) ?_
  refine lv_icmp_lt (tgt := 12) X.1.1 X.1.2.1 dX8_text_6 (by decide) (fun cq => ?_) (fun cq => ?_)
  rotate_left
  · have c6 : (6 : Int32) ≤ I 8 0 5 := by first | exact Int32.not_lt.mp cq | exact cq
    rw [if_pos c6] at h
    cases h
    refine sg_lg S (fun S => ?_)
    refine lv_bipush (v := -4) X.1.1 X.1.2.1 dX8_text_9 (by decide) ?_
    exact lg_iret X S (Nat.zero_le _) (Nat.zero_le _) dX8_text_11
  have c6 : ¬ (6 : Int32) ≤ I 8 0 5 := by first | exact Int32.not_le.mpr cq | exact cq
  rw [if_neg c6] at h
  obtain ⟨q, hq, h⟩ := pz_bd_e h
  refine lv_aload_n X.1.1 X.1.2.1 dX8_text_12 rfl (lv_at hl 0 rfl) ?_
  refine sg_get X S hk8 (show ly_cell G (mm_mx I J) (ly_loc 8 0) = ly_K G 8 0 (I 8 0) from ly_at o8) (show vwCl[8]? = some (RX8, TX8, 9) from rfl) in_X8 3 (by decide) lk_X8_22 rfl dX8_text_13 ?_
  refine sg_lg S (fun S => ?_)
  have o3 : ly_ok n 3 0 := ly_ok_3 (by decide) hn0
  refine lg_Vi (I1 := q.1) (J1 := J) (r := q.2) (As := []) (rest := []) X S hn0 ⟨Nat.le_of_ble_eq_true rfl, Nat.le_of_ble_eq_true rfl⟩ (c_X3_readTape hq) gd_X8_70 ⟨rfl, ny_X3_readTape⟩ ⟨rfl, rfl⟩ ⟨Nat.le_of_ble_eq_true rfl, Nat.le_of_ble_eq_true rfl⟩ (lg_recvL (k := 3) (i := 0) X S o3 rfl rfl) rfl rfl hl.1 (Nat.le_of_ble_eq_true rfl) dX8_text_16 (fun H locs S => ?_)
  refine lv_if_ne (tgt := 33) X.1.1 X.1.2.1 dX8_text_19 (by decide) (fun cq => ?_) (fun cq => ?_)
  rotate_left
  · have c0 : q.2 = 0 := by first | exact cq | exact Decidable.of_not_not cq
    rw [if_pos c0] at h
    cases h
    refine lv_bipush (v := -100) X.1.1 X.1.2.1 dX8_text_22 (by decide) ?_
    refine lv_aload_n X.1.1 X.1.2.1 dX8_text_24 rfl (lv_at hl 0 rfl) ?_
    refine lg_get X S hk8 (show ly_cell G (mm_mx q.1 J) (ly_loc 8 0) = ly_K G 8 0 (q.1 8 0) from ly_at o8) (show vwCl[8]? = some (RX8, TX8, 9) from rfl) in_X8 3 (by decide) lk_X8_22 rfl dX8_text_25 ?_
    refine lg_getN X S o3.2 (show ly_cell G (mm_mx q.1 J) (ly_loc 3 0) = ly_K G 3 0 (q.1 3 0) from ly_at o3) (show vwCl[3]? = some (RX3, TX3, 11) from rfl) in_X3 10 (by decide) lk_X8_121 rfl dX8_text_28 ?_
    refine lv_isub X.1.1 X.1.2.1 dX8_text_31 ?_
    exact lg_iret X S (Nat.zero_le _) (Nat.zero_le _) dX8_text_32
  have c0 : ¬ q.2 = 0 := by first | exact cq | exact fun e => absurd e cq
  rw [if_neg c0] at h
  obtain ⟨g1, h⟩ := pz_gd_e h
  obtain ⟨g2, h⟩ := pz_gd_e h
  obtain ⟨g3, h⟩ := pz_gd_e h
  have g3 := of_decide_eq_true g3
  cases h
  refine lv_aload_n X.1.1 X.1.2.1 dX8_text_33 rfl (lv_at hl 0 rfl) ?_
  refine lg_get X S hk8 (show ly_cell G (mm_mx q.1 J) (ly_loc 8 0) = ly_K G 8 0 (q.1 8 0) from ly_at o8) (show vwCl[8]? = some (RX8, TX8, 9) from rfl) in_X8 4 (by decide) lk_X8_28 rfl dX8_text_34 ?_
  refine lv_aload_n X.1.1 X.1.2.1 dX8_text_37 rfl (lv_at hl 0 rfl) ?_
  refine lg_get X S hk8 (show ly_cell G (mm_mx q.1 J) (ly_loc 8 0) = ly_K G 8 0 (q.1 8 0) from ly_at o8) (show vwCl[8]? = some (RX8, TX8, 9) from rfl) in_X8 5 (by decide) lk_X8_78 rfl dX8_text_38 ?_
  refine lv_aload_n X.1.1 X.1.2.1 dX8_text_41 rfl (lv_at hl 0 rfl) ?_
  refine lg_get X S hk8 (show ly_cell G (mm_mx q.1 J) (ly_loc 8 0) = ly_K G 8 0 (q.1 8 0) from ly_at o8) (show vwCl[8]? = some (RX8, TX8, 9) from rfl) in_X8 3 (by decide) lk_X8_22 rfl dX8_text_42 ?_
  refine lg_Vr (M1 := ly_cell G (mm_mx (md_I q.1 t) J)) (n1 := n + 3) (b1 := cx_b G + ly_loc 7 t) (As := []) (rest := [.int (q.1 8 0 5), .ref (cx_b G + ly_loc 20 0)]) X S (k_made ht g2) gd_X8_74 ⟨rfl, ny_X3_made⟩ ⟨rfl, rfl⟩ ⟨Nat.le_of_ble_eq_true rfl, Nat.le_of_ble_eq_true rfl⟩ (lg_recvL (k := 3) (i := 0) X S o3 rfl rfl) rfl rfl hl.1 (Nat.le_of_ble_eq_true rfl) dX8_text_45 ⟨Nat.le_of_ble_eq_true rfl, Nat.le_of_ble_eq_true rfl⟩ (fun H locs S => ?_)
  have S := lg_sg (cells := 3) S hsz rfl
  obtain ⟨V, eV⟩ : ∃ z, z = md_I q.1 t := ⟨_, rfl⟩
  rw [← eV] at S
  rw [← eV]
  have o7 := (md_ok ht).2.2.2.1
  have o20 : ly_ok (n + 3) 20 0 := ly_ok_20 (by decide) (by omega)
  have o8 : ly_ok (n + 3) 8 0 := ly_ok_8 (by decide) (by omega)
  refine sg_astq X S (k := ly_loc 20 0) (kv := ly_loc 7 t) o20.2 o7.2 (show ly_cell G (mm_mx V J) (ly_loc 20 0) = ly_K G 20 0 (V 20 0) from ly_at o20) (r := (RX7, TX7, 4)) rfl (show ly_cell G (mm_mx V J) (ly_loc 7 t) = ly_K G 7 t (V 7 t) from ly_at o7) (show vwCl[7]? = some (RX7, TX7, 4) from rfl) g1 dX8_text_48 (fun H locs S => ?_)
  rw [tx_a2 g3] at S
  have S : sg_ok G n (n + 3) (ly_cell G (mm_mx (mm_up V 20 0 (q.1 8 0 5).toNatClampNeg (nI t)) J)) s H locs 3 := by
    unfold mm_up; rw [mm_mx_rowI rfl, ly_up o20]; exact S
  have hV : V 8 0 = q.1 8 0 := by rw [eV]; unfold md_I; rw [mm_row_ne (by decide), mm_row_ne (by decide), mm_row_ne (by decide)]
  obtain ⟨V2, eV2⟩ : ∃ z, z = mm_up V 20 0 (q.1 8 0 5).toNatClampNeg (nI t) := ⟨_, rfl⟩
  rw [← eV2] at S
  rw [← eV2]
  have hV2 : V2 8 0 = q.1 8 0 := by rw [eV2, mm_up_ne (by decide)]; exact hV
  refine lv_aload_n X.1.1 X.1.2.1 dX8_text_49 rfl (lv_at hl 0 rfl) ?_
  refine lv_dup X.1.1 X.1.2.1 dX8_text_50 rfl ?_
  refine sg_get X S o8.2 (show ly_cell G (mm_mx V2 J) (ly_loc 8 0) = ly_K G 8 0 (V2 8 0) from ly_at o8) (show vwCl[8]? = some (RX8, TX8, 9) from rfl) in_X8 5 (by decide) lk_X8_78 rfl dX8_text_51 ?_
  refine lv_iconst (v := 1) X.1.1 X.1.2.1 dX8_text_54 (by decide) ?_
  refine lv_iadd X.1.1 X.1.2.1 dX8_text_55 ?_
  refine sg_put X S o8.2 (show ly_cell G (mm_mx V2 J) (ly_loc 8 0) = ly_K G 8 0 (V2 8 0) from ly_at o8) (show vwCl[8]? = some (RX8, TX8, 9) from rfl) in_X8 tyX8_ok nmX8 5 (by decide) lk_X8_78 rfl rfl rfl (Nat.le_of_ble_eq_true rfl) dX8_text_56 (fun H locs S => ?_)
  rw [hV2] at S
  obtain ⟨V3, eV3⟩ : ∃ z, z = mm_up V2 8 0 5 (q.1 8 0 5 + 1) := ⟨_, rfl⟩
  have S : sg_ok G n (n + 3) (ly_cell G (mm_mx V3 J)) s H locs 3 := by
    rw [eV3]; unfold mm_up; rw [mm_mx_rowI rfl, ly_up o8, hV2]; exact S
  rw [← eV3]
  have hV3 : V3 8 0 5 = q.1 8 0 5 + 1 := by rw [eV3, mm_up_at]; exact if_pos rfl
  refine lv_aload_n X.1.1 X.1.2.1 dX8_text_59 rfl (lv_at hl 0 rfl) ?_
  refine sg_get X S o8.2 (show ly_cell G (mm_mx V3 J) (ly_loc 8 0) = ly_K G 8 0 (V3 8 0) from ly_at o8) (show vwCl[8]? = some (RX8, TX8, 9) from rfl) in_X8 5 (by decide) lk_X8_78 rfl dX8_text_60 ?_
  rw [hV3]
  refine lv_iconst (v := 1) X.1.1 X.1.2.1 dX8_text_63 (by decide) ?_
  refine lv_isub X.1.1 X.1.2.1 dX8_text_64 ?_
  refine sg_lg S (fun S => ?_)
  exact lg_iret X S (Nat.le_of_ble_eq_true rfl) (Nat.le_of_ble_eq_true rfl) dX8_text_65
