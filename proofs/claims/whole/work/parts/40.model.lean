def f_X9_in (N : Nat) (p1 : Int64) (p2 : Int64) (p3 : Int64) : Option (Int32) := if (lg_cmp p1 p2) < 0 then (some (0 : Int32)) else (if 0 < (lg_cmp p1 p3) then (some (0 : Int32)) else (some (1 : Int32)))
set_option maxRecDepth 100000 in
set_option maxHeartbeats 4000000 in
theorem c_X9_in {l : Launch} {G : cx_T} {N n : Nat} {I J : mm_T} {p1 : Int64} {p2 : Int64} {p3 : Int64} {z : Int32} (h : f_X9_in N p1 p2 p3 = some z) : ct_m l G n yX9_in cX9_in 6 (some .boolean) ({ frames := 0, cells := 0, slots := 0, locals := 0 }) [.long p1, .long p2, .long p3] I J (ct_qi G n I J z) := by
  refine ct_en (by decide) (Nat.le_of_ble_eq_true rfl) ?_
  intro p e s m args below meth c ls X S hl
  have X : cx_ok G p s m args meth c cX9_in 6 RX9 (some .boolean) := X
  have hl : lv_has ls 6 [(0, .long p1), (2, .long p2), (4, .long p3)] := hl
  have hn := S.2.2.2
  unfold f_X9_in at h
  refine lv_lload_n X.1 X.2.1 dX9_in_0 rfl (lv_at hl 0 rfl) ?_
  refine lv_lload_n X.1 X.2.1 dX9_in_1 rfl (lv_at hl 1 rfl) ?_
  refine W.lcmp X.1 X.2.1 dX9_in_2 ?_
  refine lv_if_lt (tgt := 17) X.1 X.2.1 dX9_in_3 (by decide) (fun c_1 => ?_) (fun c_1 => ?_)
  · have h := pz_t c_1 h
    refine lv_iconst (v := 0) X.1 X.2.1 dX9_in_17 (by decide) ?_
    cases h
    exact r_zret (v := 0) X S rfl dX9_in_18
  have h := pz_f c_1 h
  refine lv_lload_n X.1 X.2.1 dX9_in_6 rfl (lv_at hl 0 rfl) ?_
  refine lv_lload X.1 X.2.1 dX9_in_7 (lv_at hl 2 rfl) ?_
  refine W.lcmp X.1 X.2.1 dX9_in_9 ?_
  refine lv_if_gt (tgt := 17) X.1 X.2.1 dX9_in_10 (by decide) (fun c_2 => ?_) (fun c_2 => ?_)
  · have h := pz_t c_2 h
    refine lv_iconst (v := 0) X.1 X.2.1 dX9_in_17 (by decide) ?_
    cases h
    exact r_zret (v := 0) X S rfl dX9_in_18
  have h := pz_f c_2 h
  refine lv_iconst (v := 1) X.1 X.2.1 dX9_in_13 (by decide) ?_
  refine lv_goto (tgt := 18) X.1 X.2.1 dX9_in_14 (by decide) ?_
  cases h
  exact r_zret (v := 1) X S rfl dX9_in_18
def f_X9_within (N : Nat) (p1 : Int32) (p2 : Int32) (p3 : Int32) : Option (Int32) := if p2 ≤ p1 then (if p1 ≤ p3 then (some p1) else (some p3)) else (some p2)
set_option maxRecDepth 100000 in
set_option maxHeartbeats 4000000 in
theorem c_X9_within {l : Launch} {G : cx_T} {N n : Nat} {I J : mm_T} {p1 : Int32} {p2 : Int32} {p3 : Int32} {z : Int32} (h : f_X9_within N p1 p2 p3 = some z) : ct_m l G n yX9_within cX9_within 3 (some .int) ({ frames := 0, cells := 0, slots := 0, locals := 0 }) [.int p1, .int p2, .int p3] I J (ct_qi G n I J z) := by
  refine ct_en (by decide) (Nat.le_of_ble_eq_true rfl) ?_
  intro p e s m args below meth c ls X S hl
  have X : cx_ok G p s m args meth c cX9_within 3 RX9 (some .int) := X
  have hl : lv_has ls 3 [(0, .int p1), (1, .int p2), (2, .int p3)] := hl
  have hn := S.2.2.2
  unfold f_X9_within at h
  refine lv_iload_n X.1 X.2.1 dX9_within_0 rfl (lv_at hl 0 rfl) ?_
  refine lv_iload_n X.1 X.2.1 dX9_within_1 rfl (lv_at hl 1 rfl) ?_
  refine lv_icmp_ge (tgt := 9) X.1 X.2.1 dX9_within_2 (by decide) (fun c_1 => ?_) (fun c_1 => ?_)
  · have h := pz_t c_1 h
    refine lv_iload_n X.1 X.2.1 dX9_within_9 rfl (lv_at hl 0 rfl) ?_
    refine lv_iload_n X.1 X.2.1 dX9_within_10 rfl (lv_at hl 2 rfl) ?_
    refine lv_icmp_le (tgt := 18) X.1 X.2.1 dX9_within_11 (by decide) (fun c_2 => ?_) (fun c_2 => ?_)
    · have h := pz_t c_2 h
      refine lv_iload_n X.1 X.2.1 dX9_within_18 rfl (lv_at hl 0 rfl) ?_
      cases h
      exact r_iret X S dX9_within_19
    have h := pz_f c_2 h
    refine lv_iload_n X.1 X.2.1 dX9_within_14 rfl (lv_at hl 2 rfl) ?_
    refine lv_goto (tgt := 19) X.1 X.2.1 dX9_within_15 (by decide) ?_
    cases h
    exact r_iret X S dX9_within_19
  have h := pz_f c_1 h
  refine lv_iload_n X.1 X.2.1 dX9_within_5 rfl (lv_at hl 1 rfl) ?_
  refine lv_goto (tgt := 19) X.1 X.2.1 dX9_within_6 (by decide) ?_
  cases h
  exact r_iret X S dX9_within_19
def f_X9_bitsOf_L4 (N : Nat) (p1 : Int32) : Nat → Int32 → Int32 → Option (Int32)
  | 0, _, _ => none
  | cnt + 1, a1, a2 => if a2 = 0 then (some a1) else (pz_lt (a1 + (1 : Int32)) fun x_2 => pz_lt (a2 &&& (a2 - (1 : Int32))) fun x_3 => f_X9_bitsOf_L4 N p1 cnt x_2 x_3)
set_option maxRecDepth 100000 in
set_option maxHeartbeats 4000000 in
theorem w_X9_bitsOf_L4 {l : Launch} {G : cx_T} {p : Program} {e : Env} {s : State} {m : MethodId} {args : Array Value} {below : List Frame} {meth : Method} {c : Code} {N n : Nat} {I J : mm_T} {p1 : Int32} (X : cx_ok G p s m args meth c cX9_bitsOf 3 RX9 (some .int)) (hn : 111 ≤ n) {z : Int32} : ∀ (cnt : Nat) {a1 : Int32} {a2 : Int32} {H : Heap} {locs : List Loc} {ls : Array Slot} , f_X9_bitsOf_L4 N p1 cnt a1 a2 = some z → st_ok G n I J s H locs → lv_has ls 3 [(1, .int a1), (2, .int a2)] → W p l e ({ frames := 0, cells := 0, slots := 0, locals := 0 }) s m args below meth c H locs 0 0 (MQ below (ct_qi G n I J z) args s 0 0 (cx_A G)) (F0 m 4 ls []) := by
  intro cnt
  induction cnt with
  | zero =>
    intro a1 a2 H locs ls h
    rw [f_X9_bitsOf_L4] at h
    cases h
  | succ cnt ih =>
    intro a1 a2 H locs ls h S hl
    rw [f_X9_bitsOf_L4] at h
    refine lv_iload_n X.1 X.2.1 dX9_bitsOf_4 rfl (lv_at hl 1 rfl) ?_
    refine lv_if_eq (tgt := 20) X.1 X.2.1 dX9_bitsOf_5 (by decide) (fun c_1 => ?_) (fun c_1 => ?_)
    · have h := pz_t c_1 h
      refine lv_iload_n X.1 X.2.1 dX9_bitsOf_20 rfl (lv_at hl 0 rfl) ?_
      cases h
      exact r_iret X S dX9_bitsOf_21
    have h := pz_f c_1 h
    obtain ⟨x_2, ex_2⟩ : ∃ y : Int32, y = (a1 + (1 : Int32)) := ⟨_, rfl⟩
    have h := pz_lt_e h ex_2
    refine lv_iinc (v := x_2) (lv' := [(1, .int x_2), (2, .int a2)]) X.1 X.2.1 dX9_bitsOf_8 hl (k := 0) rfl (by rw [ex_2]; rfl) (by decide) rfl (fun ls hl => ?_)
    refine lv_iload_n X.1 X.2.1 dX9_bitsOf_11 rfl (lv_at hl 1 rfl) ?_
    refine lv_iload_n X.1 X.2.1 dX9_bitsOf_12 rfl (lv_at hl 1 rfl) ?_
    refine lv_iconst (v := 1) X.1 X.2.1 dX9_bitsOf_13 (by decide) ?_
    refine lv_isub X.1 X.2.1 dX9_bitsOf_14 ?_
    refine lv_iand X.1 X.2.1 dX9_bitsOf_15 ?_
    refine lv_topi (fun x_3 ex_3 => ?_)
    have h := pz_lt_e h ex_3
    refine lv_istore_n (lv' := [(2, .int x_3), (1, .int x_2)]) X.1 X.2.1 dX9_bitsOf_16 rfl hl (by decide) rfl (fun ls hl => ?_)
    refine lv_goto (tgt := 4) X.1 X.2.1 dX9_bitsOf_17 (by decide) ?_
    exact ih h S (lv_sub hl [1, 0] rfl)
def f_X9_bitsOf (N : Nat) (p1 : Int32) : Option (Int32) := f_X9_bitsOf_L4 N p1 N (0 : Int32) p1
set_option maxRecDepth 100000 in
set_option maxHeartbeats 4000000 in
theorem c_X9_bitsOf {l : Launch} {G : cx_T} {N n : Nat} {I J : mm_T} {p1 : Int32} {z : Int32} (h : f_X9_bitsOf N p1 = some z) : ct_m l G n yX9_bitsOf cX9_bitsOf 3 (some .int) ({ frames := 0, cells := 0, slots := 0, locals := 0 }) [.int p1] I J (ct_qi G n I J z) := by
  refine ct_en (by decide) (Nat.le_of_ble_eq_true rfl) ?_
  intro p e s m args below meth c ls X S hl
  have X : cx_ok G p s m args meth c cX9_bitsOf 3 RX9 (some .int) := X
  have hl : lv_has ls 3 [(0, .int p1)] := hl
  have hn := S.2.2.2
  unfold f_X9_bitsOf at h
  refine lv_iconst (v := 0) X.1 X.2.1 dX9_bitsOf_0 (by decide) ?_
  refine lv_istore_n (lv' := [(1, .int (0 : Int32)), (0, .int p1)]) X.1 X.2.1 dX9_bitsOf_1 rfl hl (by decide) rfl (fun ls hl => ?_)
  refine lv_iload_n X.1 X.2.1 dX9_bitsOf_2 rfl (lv_at hl 1 rfl) ?_
  refine lv_istore_n (lv' := [(2, .int p1), (1, .int (0 : Int32)), (0, .int p1)]) X.1 X.2.1 dX9_bitsOf_3 rfl hl (by decide) rfl (fun ls hl => ?_)
  exact w_X9_bitsOf_L4 X hn N h S (lv_sub hl [1, 0] rfl)
def f_X9_spell (N : Nat) (J : mm_T) (p1 : Int32) (p2 : Int32) (p3 : Int32) (p4 : Int32) (p5 : Int32) (p6 : Int32) (p7 : Int32) (p8 : Int32) (p9 : Int32) : Option (mm_T) := pz_gd (ix_in p1 960) <| pz_lt (mm_up J 30 0 p1.toNatClampNeg p2) fun J_2 => pz_gd (ix_in (p1 + (1 : Int32)) 960) <| pz_lt (mm_up J_2 30 0 (p1 + (1 : Int32)).toNatClampNeg p3) fun J_4 => pz_gd (ix_in (p1 + (2 : Int32)) 960) <| pz_lt (mm_up J_4 30 0 (p1 + (2 : Int32)).toNatClampNeg p4) fun J_6 => pz_gd (ix_in (p1 + (3 : Int32)) 960) <| pz_lt (mm_up J_6 30 0 (p1 + (3 : Int32)).toNatClampNeg p5) fun J_8 => pz_gd (ix_in (p1 + (4 : Int32)) 960) <| pz_lt (mm_up J_8 30 0 (p1 + (4 : Int32)).toNatClampNeg p6) fun J_10 => pz_gd (ix_in (p1 + (5 : Int32)) 960) <| pz_lt (mm_up J_10 30 0 (p1 + (5 : Int32)).toNatClampNeg p7) fun J_12 => pz_gd (ix_in (p1 + (6 : Int32)) 960) <| pz_lt (mm_up J_12 30 0 (p1 + (6 : Int32)).toNatClampNeg p8) fun J_14 => pz_gd (ix_in (p1 + (7 : Int32)) 960) <| pz_lt (mm_up J_14 30 0 (p1 + (7 : Int32)).toNatClampNeg p9) fun J_16 => some J_16
set_option maxRecDepth 100000 in
set_option maxHeartbeats 4000000 in
theorem c_X9_spell {l : Launch} {G : cx_T} {N n : Nat} {I J : mm_T} {p1 : Int32} {p2 : Int32} {p3 : Int32} {p4 : Int32} {p5 : Int32} {p6 : Int32} {p7 : Int32} {p8 : Int32} {p9 : Int32} (hn : 144 ≤ n) {z : mm_T} (h : f_X9_spell N J p1 p2 p3 p4 p5 p6 p7 p8 p9 = some z) : ct_m l G n yX9_spell cX9_spell 10 none ({ frames := 0, cells := 0, slots := 0, locals := 0 }) [.ref (cx_b G + ly_loc 9 0), .int p1, .int p2, .int p3, .int p4, .int p5, .int p6, .int p7, .int p8, .int p9] I J (ct_qv G n I z) := by
  refine ct_en (by decide) (Nat.le_of_ble_eq_true rfl) ?_
  intro p e s m args below meth c ls X S hl
  have X : cx_ok G p s m args meth c cX9_spell 10 RX9 none := X
  have hl : lv_has ls 10 [(0, .ref (cx_b G + ly_loc 9 0)), (1, .int p1), (2, .int p2), (3, .int p3), (4, .int p4), (5, .int p5), (6, .int p6), (7, .int p7), (8, .int p8), (9, .int p9)] := hl
  unfold f_X9_spell at h
  refine lv_aload_n X.1 X.2.1 dX9_spell_0 rfl (lv_at hl 0 rfl) ?_
  refine gf_X9_13 X S hn (by decide) dX9_spell_1 ?_
  refine lv_iload_n X.1 X.2.1 dX9_spell_4 rfl (lv_at hl 1 rfl) ?_
  refine lv_iload_n X.1 X.2.1 dX9_spell_5 rfl (lv_at hl 2 rfl) ?_
  obtain ⟨g_1, h⟩ := pz_gd_e h
  refine as_30 X S hn (by decide) g_1 dX9_spell_6 (fun J_2 H locs eJ_2 S => ?_)
  have h := pz_lt_e h eJ_2
  refine lv_aload_n X.1 X.2.1 dX9_spell_7 rfl (lv_at hl 0 rfl) ?_
  refine gf_X9_13 X S hn (by decide) dX9_spell_8 ?_
  refine lv_iload_n X.1 X.2.1 dX9_spell_11 rfl (lv_at hl 1 rfl) ?_
  refine lv_iconst (v := 1) X.1 X.2.1 dX9_spell_12 (by decide) ?_
  refine lv_iadd X.1 X.2.1 dX9_spell_13 ?_
  refine lv_iload_n X.1 X.2.1 dX9_spell_14 rfl (lv_at hl 3 rfl) ?_
  obtain ⟨g_3, h⟩ := pz_gd_e h
  refine as_30 X S hn (by decide) g_3 dX9_spell_15 (fun J_4 H locs eJ_4 S => ?_)
  have h := pz_lt_e h eJ_4
  refine lv_aload_n X.1 X.2.1 dX9_spell_16 rfl (lv_at hl 0 rfl) ?_
  refine gf_X9_13 X S hn (by decide) dX9_spell_17 ?_
  refine lv_iload_n X.1 X.2.1 dX9_spell_20 rfl (lv_at hl 1 rfl) ?_
  refine lv_iconst (v := 2) X.1 X.2.1 dX9_spell_21 (by decide) ?_
  refine lv_iadd X.1 X.2.1 dX9_spell_22 ?_
  refine lv_iload X.1 X.2.1 dX9_spell_23 (lv_at hl 4 rfl) ?_
  obtain ⟨g_5, h⟩ := pz_gd_e h
  refine as_30 X S hn (by decide) g_5 dX9_spell_25 (fun J_6 H locs eJ_6 S => ?_)
  have h := pz_lt_e h eJ_6
  refine lv_aload_n X.1 X.2.1 dX9_spell_26 rfl (lv_at hl 0 rfl) ?_
  refine gf_X9_13 X S hn (by decide) dX9_spell_27 ?_
  refine lv_iload_n X.1 X.2.1 dX9_spell_30 rfl (lv_at hl 1 rfl) ?_
  refine lv_iconst (v := 3) X.1 X.2.1 dX9_spell_31 (by decide) ?_
  refine lv_iadd X.1 X.2.1 dX9_spell_32 ?_
  refine lv_iload X.1 X.2.1 dX9_spell_33 (lv_at hl 5 rfl) ?_
  obtain ⟨g_7, h⟩ := pz_gd_e h
  refine as_30 X S hn (by decide) g_7 dX9_spell_35 (fun J_8 H locs eJ_8 S => ?_)
  have h := pz_lt_e h eJ_8
  refine lv_aload_n X.1 X.2.1 dX9_spell_36 rfl (lv_at hl 0 rfl) ?_
  refine gf_X9_13 X S hn (by decide) dX9_spell_37 ?_
  refine lv_iload_n X.1 X.2.1 dX9_spell_40 rfl (lv_at hl 1 rfl) ?_
  refine lv_iconst (v := 4) X.1 X.2.1 dX9_spell_41 (by decide) ?_
  refine lv_iadd X.1 X.2.1 dX9_spell_42 ?_
  refine lv_iload X.1 X.2.1 dX9_spell_43 (lv_at hl 6 rfl) ?_
  obtain ⟨g_9, h⟩ := pz_gd_e h
  refine as_30 X S hn (by decide) g_9 dX9_spell_45 (fun J_10 H locs eJ_10 S => ?_)
  have h := pz_lt_e h eJ_10
  refine lv_aload_n X.1 X.2.1 dX9_spell_46 rfl (lv_at hl 0 rfl) ?_
  refine gf_X9_13 X S hn (by decide) dX9_spell_47 ?_
  refine lv_iload_n X.1 X.2.1 dX9_spell_50 rfl (lv_at hl 1 rfl) ?_
  refine lv_iconst (v := 5) X.1 X.2.1 dX9_spell_51 (by decide) ?_
  refine lv_iadd X.1 X.2.1 dX9_spell_52 ?_
  refine lv_iload X.1 X.2.1 dX9_spell_53 (lv_at hl 7 rfl) ?_
  obtain ⟨g_11, h⟩ := pz_gd_e h
  refine as_30 X S hn (by decide) g_11 dX9_spell_55 (fun J_12 H locs eJ_12 S => ?_)
  have h := pz_lt_e h eJ_12
  refine lv_aload_n X.1 X.2.1 dX9_spell_56 rfl (lv_at hl 0 rfl) ?_
  refine gf_X9_13 X S hn (by decide) dX9_spell_57 ?_
  refine lv_iload_n X.1 X.2.1 dX9_spell_60 rfl (lv_at hl 1 rfl) ?_
  refine lv_bipush (v := 6) X.1 X.2.1 dX9_spell_61 (by decide) ?_
  refine lv_iadd X.1 X.2.1 dX9_spell_63 ?_
  refine lv_iload X.1 X.2.1 dX9_spell_64 (lv_at hl 8 rfl) ?_
  obtain ⟨g_13, h⟩ := pz_gd_e h
  refine as_30 X S hn (by decide) g_13 dX9_spell_66 (fun J_14 H locs eJ_14 S => ?_)
  have h := pz_lt_e h eJ_14
  refine lv_aload_n X.1 X.2.1 dX9_spell_67 rfl (lv_at hl 0 rfl) ?_
  refine gf_X9_13 X S hn (by decide) dX9_spell_68 ?_
  refine lv_iload_n X.1 X.2.1 dX9_spell_71 rfl (lv_at hl 1 rfl) ?_
  refine lv_bipush (v := 7) X.1 X.2.1 dX9_spell_72 (by decide) ?_
  refine lv_iadd X.1 X.2.1 dX9_spell_74 ?_
  refine lv_iload X.1 X.2.1 dX9_spell_75 (lv_at hl 9 rfl) ?_
  obtain ⟨g_15, h⟩ := pz_gd_e h
  refine as_30 X S hn (by decide) g_15 dX9_spell_77 (fun J_16 H locs eJ_16 S => ?_)
  have h := pz_lt_e h eJ_16
  cases h
  exact r_vret X S dX9_spell_78
def f_X9_isOne (N : Nat) (J : mm_T) (p1 : Int32) : Option (Int32) := pz_bd (f_X9_in N (p1.toInt64) (0 : Int64) (((J 9 0 9) - (1 : Int32)).toInt64)) fun q_1 => pz_gd (pz_z q_1) <| some q_1
set_option maxRecDepth 100000 in
set_option maxHeartbeats 4000000 in
theorem c_X9_isOne {l : Launch} {G : cx_T} {N n : Nat} {I J : mm_T} {p1 : Int32} (hn : 144 ≤ n) {z : Int32} (h : f_X9_isOne N J p1 = some z) : ct_m l G n yX9_isOne cX9_isOne 2 (some .boolean) ({ frames := 1, cells := 0, slots := 0, locals := 25 }) [.ref (cx_b G + ly_loc 9 0), .int p1] I J (ct_qi G n I J z) := by
  refine ct_en (by decide) (Nat.le_of_ble_eq_true rfl) ?_
  intro p e s m args below meth c ls X S hl
  have X : cx_ok G p s m args meth c cX9_isOne 2 RX9 (some .boolean) := X
  have hl : lv_has ls 2 [(0, .ref (cx_b G + ly_loc 9 0)), (1, .int p1)] := hl
  unfold f_X9_isOne at h
  refine lv_iload_n X.1 X.2.1 dX9_isOne_0 rfl (lv_at hl 1 rfl) ?_
  refine lv_i2l X.1 X.2.1 dX9_isOne_1 rfl ?_
  refine lv_lconst (v := 0) X.1 X.2.1 dX9_isOne_2 (by decide) ?_
  refine lv_aload_n X.1 X.2.1 dX9_isOne_3 rfl (lv_at hl 0 rfl) ?_
  refine gf_X9_91 X S hn (by decide) dX9_isOne_4 ?_
  refine lv_iconst (v := 1) X.1 X.2.1 dX9_isOne_7 (by decide) ?_
  refine lv_isub X.1 X.2.1 dX9_isOne_8 ?_
  refine lv_i2l X.1 X.2.1 dX9_isOne_9 rfl ?_
  obtain ⟨q_1, eq_1, h⟩ := pz_bd_e h
  refine r_Si X S (c_X9_in eq_1) gd_X9_94 ny_X9_in ⟨rfl, rfl⟩ ⟨Nat.le_of_ble_eq_true rfl, Nat.le_of_ble_eq_true rfl⟩ rfl rfl hl.1 (Nat.le_of_ble_eq_true rfl) dX9_isOne_10 (fun H locs S => ?_)
  obtain ⟨g_2, h⟩ := pz_gd_e h
  cases h
  exact r_zret X S (pz_zn g_2) dX9_isOne_13
def f_X9_isSlip (N : Nat) (J : mm_T) (p1 : Int32) : Option (Int32) := pz_bd (f_X9_in N (p1.toInt64) (0 : Int64) (((J 9 0 14) - (1 : Int32)).toInt64)) fun q_1 => pz_gd (pz_z q_1) <| some q_1
set_option maxRecDepth 100000 in
set_option maxHeartbeats 4000000 in
theorem c_X9_isSlip {l : Launch} {G : cx_T} {N n : Nat} {I J : mm_T} {p1 : Int32} (hn : 144 ≤ n) {z : Int32} (h : f_X9_isSlip N J p1 = some z) : ct_m l G n yX9_isSlip cX9_isSlip 2 (some .boolean) ({ frames := 1, cells := 0, slots := 0, locals := 25 }) [.ref (cx_b G + ly_loc 9 0), .int p1] I J (ct_qi G n I J z) := by
  refine ct_en (by decide) (Nat.le_of_ble_eq_true rfl) ?_
  intro p e s m args below meth c ls X S hl
  have X : cx_ok G p s m args meth c cX9_isSlip 2 RX9 (some .boolean) := X
  have hl : lv_has ls 2 [(0, .ref (cx_b G + ly_loc 9 0)), (1, .int p1)] := hl
  unfold f_X9_isSlip at h
  refine lv_iload_n X.1 X.2.1 dX9_isSlip_0 rfl (lv_at hl 1 rfl) ?_
  refine lv_i2l X.1 X.2.1 dX9_isSlip_1 rfl ?_
  refine lv_lconst (v := 0) X.1 X.2.1 dX9_isSlip_2 (by decide) ?_
  refine lv_aload_n X.1 X.2.1 dX9_isSlip_3 rfl (lv_at hl 0 rfl) ?_
  refine gf_X9_98 X S hn (by decide) dX9_isSlip_4 ?_
  refine lv_iconst (v := 1) X.1 X.2.1 dX9_isSlip_7 (by decide) ?_
  refine lv_isub X.1 X.2.1 dX9_isSlip_8 ?_
  refine lv_i2l X.1 X.2.1 dX9_isSlip_9 rfl ?_
  obtain ⟨q_1, eq_1, h⟩ := pz_bd_e h
  refine r_Si X S (c_X9_in eq_1) gd_X9_94 ny_X9_in ⟨rfl, rfl⟩ ⟨Nat.le_of_ble_eq_true rfl, Nat.le_of_ble_eq_true rfl⟩ rfl rfl hl.1 (Nat.le_of_ble_eq_true rfl) dX9_isSlip_10 (fun H locs S => ?_)
  obtain ⟨g_2, h⟩ := pz_gd_e h
  cases h
  exact r_zret X S (pz_zn g_2) dX9_isSlip_13
def f_X9_come (N : Nat) (J : mm_T) (p1 : Int32) (p2 : Int32) : Option (mm_T × Int32) := pz_bd (f_X9_in N (p1.toInt64) (0 : Int64) (99 : Int64)) fun q_1 => if q_1 = 0 then (some (J, (-2 : Int32))) else (pz_bd (f_X9_in N (p2.toInt64) (0 : Int64) (7 : Int64)) fun q_3 => if q_3 = 0 then (some (J, (-2 : Int32))) else (if (J 9 0 9) = (8 : Int32) then (some (J, (-4 : Int32))) else (pz_gd (ix_in (J 9 0 9) 8) <| pz_lt (mm_up J 33 0 (J 9 0 9).toNatClampNeg p1) fun J_7 => pz_gd (ix_in (J_7 9 0 9) 8) <| pz_lt (mm_up J_7 34 0 (J_7 9 0 9).toNatClampNeg p2) fun J_9 => pz_lt (mm_up J_9 9 0 9 ((J_9 9 0 9) + (1 : Int32))) fun J_10 => some (J_10, ((J_10 9 0 9) - (1 : Int32))))))
set_option maxRecDepth 100000 in
set_option maxHeartbeats 4000000 in
theorem c_X9_come {l : Launch} {G : cx_T} {N n : Nat} {I J : mm_T} {p1 : Int32} {p2 : Int32} (hn : 144 ≤ n) {z : mm_T × Int32} (h : f_X9_come N J p1 p2 = some z) : ct_m l G n yX9_come cX9_come 3 (some .int) ({ frames := 1, cells := 0, slots := 0, locals := 25 }) [.ref (cx_b G + ly_loc 9 0), .int p1, .int p2] I J (ct_qi G n I z.1 z.2) := by
  refine ct_en (by decide) (Nat.le_of_ble_eq_true rfl) ?_
  intro p e s m args below meth c ls X S hl
  have X : cx_ok G p s m args meth c cX9_come 3 RX9 (some .int) := X
  have hl : lv_has ls 3 [(0, .ref (cx_b G + ly_loc 9 0)), (1, .int p1), (2, .int p2)] := hl
  unfold f_X9_come at h
  refine lv_iload_n X.1 X.2.1 dX9_come_0 rfl (lv_at hl 1 rfl) ?_
  refine lv_i2l X.1 X.2.1 dX9_come_1 rfl ?_
  refine lv_lconst (v := 0) X.1 X.2.1 dX9_come_2 (by decide) ?_
  refine lv_ldc2 (v := 99) X.1 X.2.1 X.2.2.2.1 (X.2.2.2.2.1 _ kw_X9_101) dX9_come_3 ?_
  obtain ⟨q_1, eq_1, h⟩ := pz_bd_e h
  refine r_Si X S (c_X9_in eq_1) gd_X9_94 ny_X9_in ⟨rfl, rfl⟩ ⟨Nat.le_of_ble_eq_true rfl, Nat.le_of_ble_eq_true rfl⟩ rfl rfl hl.1 (Nat.le_of_ble_eq_true rfl) dX9_come_6 (fun H locs S => ?_)
  refine lv_if_eq (tgt := 24) X.1 X.2.1 dX9_come_9 (by decide) (fun c_2 => ?_) (fun c_2 => ?_)
  · have h := pz_t c_2 h
    refine lv_bipush (v := -2) X.1 X.2.1 dX9_come_24 (by decide) ?_
    cases h
    exact r_iret X S dX9_come_26
  have h := pz_f c_2 h
  refine lv_iload_n X.1 X.2.1 dX9_come_12 rfl (lv_at hl 2 rfl) ?_
  refine lv_i2l X.1 X.2.1 dX9_come_13 rfl ?_
  refine lv_lconst (v := 0) X.1 X.2.1 dX9_come_14 (by decide) ?_
  refine lv_ldc2 (v := 7) X.1 X.2.1 X.2.2.2.1 (X.2.2.2.2.1 _ kw_X9_103) dX9_come_15 ?_
  obtain ⟨q_3, eq_3, h⟩ := pz_bd_e h
  refine r_Si X S (c_X9_in eq_3) gd_X9_94 ny_X9_in ⟨rfl, rfl⟩ ⟨Nat.le_of_ble_eq_true rfl, Nat.le_of_ble_eq_true rfl⟩ rfl rfl hl.1 (Nat.le_of_ble_eq_true rfl) dX9_come_18 (fun H locs S => ?_)
  refine lv_if_ne (tgt := 27) X.1 X.2.1 dX9_come_21 (by decide) (fun c_4 => ?_) (fun c_4 => ?_)
  · have h := pz_f c_4 h
    refine lv_aload_n X.1 X.2.1 dX9_come_27 rfl (lv_at hl 0 rfl) ?_
    refine gf_X9_91 X S hn (by decide) dX9_come_28 ?_
    refine lv_bipush (v := 8) X.1 X.2.1 dX9_come_31 (by decide) ?_
    refine lv_icmp_ne (tgt := 39) X.1 X.2.1 dX9_come_33 (by decide) (fun c_5 => ?_) (fun c_5 => ?_)
    · have h := pz_f c_5 h
      refine lv_aload_n X.1 X.2.1 dX9_come_39 rfl (lv_at hl 0 rfl) ?_
      refine gf_X9_23 X S hn (by decide) dX9_come_40 ?_
      refine lv_aload_n X.1 X.2.1 dX9_come_43 rfl (lv_at hl 0 rfl) ?_
      refine gf_X9_91 X S hn (by decide) dX9_come_44 ?_
      refine lv_iload_n X.1 X.2.1 dX9_come_47 rfl (lv_at hl 1 rfl) ?_
      obtain ⟨g_6, h⟩ := pz_gd_e h
      refine as_33 X S hn (by decide) g_6 dX9_come_48 (fun J_7 H locs eJ_7 S => ?_)
      have h := pz_lt_e h eJ_7
      refine lv_aload_n X.1 X.2.1 dX9_come_49 rfl (lv_at hl 0 rfl) ?_
      refine gf_X9_26 X S hn (by decide) dX9_come_50 ?_
      refine lv_aload_n X.1 X.2.1 dX9_come_53 rfl (lv_at hl 0 rfl) ?_
      refine gf_X9_91 X S hn (by decide) dX9_come_54 ?_
      refine lv_iload_n X.1 X.2.1 dX9_come_57 rfl (lv_at hl 2 rfl) ?_
      obtain ⟨g_8, h⟩ := pz_gd_e h
      refine as_34 X S hn (by decide) g_8 dX9_come_58 (fun J_9 H locs eJ_9 S => ?_)
      have h := pz_lt_e h eJ_9
      refine lv_aload_n X.1 X.2.1 dX9_come_59 rfl (lv_at hl 0 rfl) ?_
      refine lv_dup X.1 X.2.1 dX9_come_60 rfl ?_
      refine gf_X9_91 X S hn (by decide) dX9_come_61 ?_
      refine lv_iconst (v := 1) X.1 X.2.1 dX9_come_64 (by decide) ?_
      refine lv_iadd X.1 X.2.1 dX9_come_65 ?_
      refine pf_X9_91 X S hn (by decide) dX9_come_66 (fun J_10 H locs eJ_10 S => ?_)
      have h := pz_lt_e h eJ_10
      refine lv_aload_n X.1 X.2.1 dX9_come_69 rfl (lv_at hl 0 rfl) ?_
      refine gf_X9_91 X S hn (by decide) dX9_come_70 ?_
      refine lv_iconst (v := 1) X.1 X.2.1 dX9_come_73 (by decide) ?_
      refine lv_isub X.1 X.2.1 dX9_come_74 ?_
      cases h
      exact r_iret X S dX9_come_75
    have h := pz_t c_5 h
    refine lv_bipush (v := -4) X.1 X.2.1 dX9_come_36 (by decide) ?_
    cases h
    exact r_iret X S dX9_come_38
  have h := pz_t c_4 h
  refine lv_bipush (v := -2) X.1 X.2.1 dX9_come_24 (by decide) ?_
  cases h
  exact r_iret X S dX9_come_26
def f_X9_slip (N : Nat) (J : mm_T) (p1 : Int32) (p2 : Int32) (p3 : Int32) : Option (mm_T × Int32) := pz_bd (f_X9_in N (p1.toInt64) (0 : Int64) (5 : Int64)) fun q_1 => if q_1 = 0 then (some (J, (-2 : Int32))) else (pz_bd (f_X9_in N (p2.toInt64) (10 : Int64) (99 : Int64)) fun q_3 => if q_3 = 0 then (some (J, (-2 : Int32))) else (pz_bd (f_X9_isOne N J p3) fun q_5 => if q_5 = 0 then (some (J, (-2 : Int32))) else (if (J 9 0 14) = (7 : Int32) then (some (J, (-4 : Int32))) else (pz_gd (ix_in (J 9 0 14) 7) <| pz_lt (mm_up J 35 0 (J 9 0 14).toNatClampNeg p1) fun J_9 => pz_gd (ix_in (J_9 9 0 14) 7) <| pz_lt (mm_up J_9 37 0 (J_9 9 0 14).toNatClampNeg (p2 / (10 : Int32))) fun J_11 => pz_gd (ix_in (J_11 9 0 14) 7) <| pz_lt (mm_up J_11 36 0 (J_11 9 0 14).toNatClampNeg (p2 - p2 / (10 : Int32) * (10 : Int32))) fun J_13 => pz_gd (ix_in (J_13 9 0 14) 7) <| pz_lt (mm_up J_13 38 0 (J_13 9 0 14).toNatClampNeg p3) fun J_15 => pz_lt (mm_up J_15 9 0 14 ((J_15 9 0 14) + (1 : Int32))) fun J_16 => some (J_16, ((J_16 9 0 14) - (1 : Int32)))))))
set_option maxRecDepth 100000 in
set_option maxHeartbeats 4000000 in
theorem c_X9_slip {l : Launch} {G : cx_T} {N n : Nat} {I J : mm_T} {p1 : Int32} {p2 : Int32} {p3 : Int32} (hn : 144 ≤ n) {z : mm_T × Int32} (h : f_X9_slip N J p1 p2 p3 = some z) : ct_m l G n yX9_slip cX9_slip 4 (some .int) ({ frames := 2, cells := 0, slots := 0, locals := 46 }) [.ref (cx_b G + ly_loc 9 0), .int p1, .int p2, .int p3] I J (ct_qi G n I z.1 z.2) := by
  refine ct_en (by decide) (Nat.le_of_ble_eq_true rfl) ?_
  intro p e s m args below meth c ls X S hl
  have X : cx_ok G p s m args meth c cX9_slip 4 RX9 (some .int) := X
  have hl : lv_has ls 4 [(0, .ref (cx_b G + ly_loc 9 0)), (1, .int p1), (2, .int p2), (3, .int p3)] := hl
  unfold f_X9_slip at h
  refine lv_iload_n X.1 X.2.1 dX9_slip_0 rfl (lv_at hl 1 rfl) ?_
  refine lv_i2l X.1 X.2.1 dX9_slip_1 rfl ?_
  refine lv_lconst (v := 0) X.1 X.2.1 dX9_slip_2 (by decide) ?_
  refine lv_ldc2 (v := 5) X.1 X.2.1 X.2.2.2.1 (X.2.2.2.2.1 _ kw_X9_105) dX9_slip_3 ?_
  obtain ⟨q_1, eq_1, h⟩ := pz_bd_e h
  refine r_Si X S (c_X9_in eq_1) gd_X9_94 ny_X9_in ⟨rfl, rfl⟩ ⟨Nat.le_of_ble_eq_true rfl, Nat.le_of_ble_eq_true rfl⟩ rfl rfl hl.1 (Nat.le_of_ble_eq_true rfl) dX9_slip_6 (fun H locs S => ?_)
  refine lv_if_eq (tgt := 34) X.1 X.2.1 dX9_slip_9 (by decide) (fun c_2 => ?_) (fun c_2 => ?_)
  · have h := pz_t c_2 h
    refine lv_bipush (v := -2) X.1 X.2.1 dX9_slip_34 (by decide) ?_
    cases h
    exact r_iret X S dX9_slip_36
  have h := pz_f c_2 h
  refine lv_iload_n X.1 X.2.1 dX9_slip_12 rfl (lv_at hl 2 rfl) ?_
  refine lv_i2l X.1 X.2.1 dX9_slip_13 rfl ?_
  refine lv_ldc2 (v := 10) X.1 X.2.1 X.2.2.2.1 (X.2.2.2.2.1 _ kw_X9_107) dX9_slip_14 ?_
  refine lv_ldc2 (v := 99) X.1 X.2.1 X.2.2.2.1 (X.2.2.2.2.1 _ kw_X9_101) dX9_slip_17 ?_
  obtain ⟨q_3, eq_3, h⟩ := pz_bd_e h
  refine r_Si X S (c_X9_in eq_3) gd_X9_94 ny_X9_in ⟨rfl, rfl⟩ ⟨Nat.le_of_ble_eq_true rfl, Nat.le_of_ble_eq_true rfl⟩ rfl rfl hl.1 (Nat.le_of_ble_eq_true rfl) dX9_slip_20 (fun H locs S => ?_)
  refine lv_if_eq (tgt := 34) X.1 X.2.1 dX9_slip_23 (by decide) (fun c_4 => ?_) (fun c_4 => ?_)
  · have h := pz_t c_4 h
    refine lv_bipush (v := -2) X.1 X.2.1 dX9_slip_34 (by decide) ?_
    cases h
    exact r_iret X S dX9_slip_36
  have h := pz_f c_4 h
  refine lv_aload_n X.1 X.2.1 dX9_slip_26 rfl (lv_at hl 0 rfl) ?_
  refine lv_iload_n X.1 X.2.1 dX9_slip_27 rfl (lv_at hl 3 rfl) ?_
  obtain ⟨q_5, eq_5, h⟩ := pz_bd_e h
  refine r_Vi X S (c_X9_isOne hn eq_5) gd_X9_109 ⟨rfl, ny_X9_isOne⟩ ⟨rfl, rfl⟩ ⟨Nat.le_of_ble_eq_true rfl, Nat.le_of_ble_eq_true rfl⟩ (r_recv X S (ly_ok_9 (by decide) hn) rfl rfl) rfl rfl hl.1 (Nat.le_of_ble_eq_true rfl) dX9_slip_28 (fun H locs S => ?_)
  refine lv_if_ne (tgt := 37) X.1 X.2.1 dX9_slip_31 (by decide) (fun c_6 => ?_) (fun c_6 => ?_)
  · have h := pz_f c_6 h
    refine lv_aload_n X.1 X.2.1 dX9_slip_37 rfl (lv_at hl 0 rfl) ?_
    refine gf_X9_98 X S hn (by decide) dX9_slip_38 ?_
    refine lv_bipush (v := 7) X.1 X.2.1 dX9_slip_41 (by decide) ?_
    refine lv_icmp_ne (tgt := 49) X.1 X.2.1 dX9_slip_43 (by decide) (fun c_7 => ?_) (fun c_7 => ?_)
    · have h := pz_f c_7 h
      refine lv_aload_n X.1 X.2.1 dX9_slip_49 rfl (lv_at hl 0 rfl) ?_
      refine gf_X9_29 X S hn (by decide) dX9_slip_50 ?_
      refine lv_aload_n X.1 X.2.1 dX9_slip_53 rfl (lv_at hl 0 rfl) ?_
      refine gf_X9_98 X S hn (by decide) dX9_slip_54 ?_
      refine lv_iload_n X.1 X.2.1 dX9_slip_57 rfl (lv_at hl 1 rfl) ?_
      obtain ⟨g_8, h⟩ := pz_gd_e h
      refine as_35 X S hn (by decide) g_8 dX9_slip_58 (fun J_9 H locs eJ_9 S => ?_)
      have h := pz_lt_e h eJ_9
      refine lv_aload_n X.1 X.2.1 dX9_slip_59 rfl (lv_at hl 0 rfl) ?_
      refine gf_X9_35 X S hn (by decide) dX9_slip_60 ?_
      refine lv_aload_n X.1 X.2.1 dX9_slip_63 rfl (lv_at hl 0 rfl) ?_
      refine gf_X9_98 X S hn (by decide) dX9_slip_64 ?_
      refine lv_iload_n X.1 X.2.1 dX9_slip_67 rfl (lv_at hl 2 rfl) ?_
      refine lv_bipush (v := 10) X.1 X.2.1 dX9_slip_68 (by decide) ?_
      refine lv_idiv X.1 X.2.1 dX9_slip_70 (by decide) ?_
      obtain ⟨g_10, h⟩ := pz_gd_e h
      refine as_37 X S hn (by decide) g_10 dX9_slip_71 (fun J_11 H locs eJ_11 S => ?_)
      have h := pz_lt_e h eJ_11
      refine lv_aload_n X.1 X.2.1 dX9_slip_72 rfl (lv_at hl 0 rfl) ?_
      refine gf_X9_32 X S hn (by decide) dX9_slip_73 ?_
      refine lv_aload_n X.1 X.2.1 dX9_slip_76 rfl (lv_at hl 0 rfl) ?_
      refine gf_X9_98 X S hn (by decide) dX9_slip_77 ?_
      refine lv_iload_n X.1 X.2.1 dX9_slip_80 rfl (lv_at hl 2 rfl) ?_
      refine lv_bipush (v := 10) X.1 X.2.1 dX9_slip_81 (by decide) ?_
      refine lv_irem X.1 X.2.1 dX9_slip_83 (by decide) ?_
      obtain ⟨g_12, h⟩ := pz_gd_e h
      refine as_36 X S hn (by decide) g_12 dX9_slip_84 (fun J_13 H locs eJ_13 S => ?_)
      have h := pz_lt_e h eJ_13
      refine lv_aload_n X.1 X.2.1 dX9_slip_85 rfl (lv_at hl 0 rfl) ?_
      refine gf_X9_38 X S hn (by decide) dX9_slip_86 ?_
      refine lv_aload_n X.1 X.2.1 dX9_slip_89 rfl (lv_at hl 0 rfl) ?_
      refine gf_X9_98 X S hn (by decide) dX9_slip_90 ?_
      refine lv_iload_n X.1 X.2.1 dX9_slip_93 rfl (lv_at hl 3 rfl) ?_
      obtain ⟨g_14, h⟩ := pz_gd_e h
      refine as_38 X S hn (by decide) g_14 dX9_slip_94 (fun J_15 H locs eJ_15 S => ?_)
      have h := pz_lt_e h eJ_15
      refine lv_aload_n X.1 X.2.1 dX9_slip_95 rfl (lv_at hl 0 rfl) ?_
      refine lv_dup X.1 X.2.1 dX9_slip_96 rfl ?_
      refine gf_X9_98 X S hn (by decide) dX9_slip_97 ?_
      refine lv_iconst (v := 1) X.1 X.2.1 dX9_slip_100 (by decide) ?_
      refine lv_iadd X.1 X.2.1 dX9_slip_101 ?_
      refine pf_X9_98 X S hn (by decide) dX9_slip_102 (fun J_16 H locs eJ_16 S => ?_)
      have h := pz_lt_e h eJ_16
      refine lv_aload_n X.1 X.2.1 dX9_slip_105 rfl (lv_at hl 0 rfl) ?_
      refine gf_X9_98 X S hn (by decide) dX9_slip_106 ?_
      refine lv_iconst (v := 1) X.1 X.2.1 dX9_slip_109 (by decide) ?_
      refine lv_isub X.1 X.2.1 dX9_slip_110 ?_
      cases h
      exact r_iret X S dX9_slip_111
    have h := pz_t c_7 h
    refine lv_bipush (v := -4) X.1 X.2.1 dX9_slip_46 (by decide) ?_
    cases h
    exact r_iret X S dX9_slip_48
  have h := pz_t c_6 h
  refine lv_bipush (v := -2) X.1 X.2.1 dX9_slip_34 (by decide) ?_
  cases h
  exact r_iret X S dX9_slip_36
def f_X9_set_L216 (N : Nat) (p1 : Int32) (p2 : Int32) (p3 : Int32) (J : mm_T) (a1 : Int32) (a2 : Int32) (a3 : Int32) (s0 : Int32) : Option (mm_T × Int32) := if a1 = 0 then (pz_gd (ix_in a2 8) <| pz_lt (mm_up J 33 0 a2.toNatClampNeg a3) fun J_49 => some (J_49, s0)) else (if a1 = (1 : Int32) then (pz_gd (ix_in a2 8) <| pz_lt (mm_up J 34 0 a2.toNatClampNeg a3) fun J_47 => some (J_47, s0)) else (if a1 = (2 : Int32) then (pz_gd (ix_in a2 7) <| pz_lt (mm_up J 36 0 a2.toNatClampNeg a3) fun J_45 => some (J_45, s0)) else (if a1 = (3 : Int32) then (pz_gd (ix_in a2 7) <| pz_lt (mm_up J 37 0 a2.toNatClampNeg a3) fun J_43 => some (J_43, s0)) else (if a1 = (4 : Int32) then (pz_gd (ix_in a2 7) <| pz_lt (mm_up J 38 0 a2.toNatClampNeg a3) fun J_41 => some (J_41, s0)) else (if a1 = (5 : Int32) then (pz_lt (mm_up J 9 0 15 a3) fun J_39 => some (J_39, s0)) else (pz_lt (mm_up J 9 0 16 a3) fun J_38 => some (J_38, s0)))))))
set_option maxRecDepth 100000 in
set_option maxHeartbeats 4000000 in
theorem w_X9_set_L216 {l : Launch} {G : cx_T} {p : Program} {e : Env} {s : State} {m : MethodId} {args : Array Value} {below : List Frame} {meth : Method} {c : Code} {N n : Nat} {I : mm_T} {p1 : Int32} {p2 : Int32} {p3 : Int32} (X : cx_ok G p s m args meth c cX9_set 5 RX9 (some .int)) (hn : 144 ≤ n) {z : mm_T × Int32} {J : mm_T} {a1 : Int32} {a2 : Int32} {a3 : Int32} {s0 : Int32} {H : Heap} {locs : List Loc} {ls : Array Slot} (h : f_X9_set_L216 N p1 p2 p3 J a1 a2 a3 s0 = some z) (S : st_ok G n I J s H locs) (hl : lv_has ls 5 [(0, .ref (cx_b G + ly_loc 9 0)), (1, .int a1), (2, .int a2), (3, .int a3)]) : W p l e ({ frames := 2, cells := 0, slots := 0, locals := 46 }) s m args below meth c H locs 0 0 (MQ below (ct_qi G n I z.1 z.2) args s 0 0 (cx_A G)) (F0 m 216 ls [.int s0]) := by
  unfold f_X9_set_L216 at h
  refine lv_istore (lv' := [(4, .int s0), (0, .ref (cx_b G + ly_loc 9 0)), (1, .int a1), (2, .int a2), (3, .int a3)]) X.1 X.2.1 dX9_set_216 hl (by decide) rfl (fun ls hl => ?_)
  refine lv_iload_n X.1 X.2.1 dX9_set_218 rfl (lv_at hl 2 rfl) ?_
  refine lv_if_ne (tgt := 232) X.1 X.2.1 dX9_set_219 (by decide) (fun c_32 => ?_) (fun c_32 => ?_)
  · have h := pz_f c_32 h
    refine lv_iload_n X.1 X.2.1 dX9_set_232 rfl (lv_at hl 2 rfl) ?_
    refine lv_iconst (v := 1) X.1 X.2.1 dX9_set_233 (by decide) ?_
    refine lv_icmp_ne (tgt := 247) X.1 X.2.1 dX9_set_234 (by decide) (fun c_33 => ?_) (fun c_33 => ?_)
    · have h := pz_f c_33 h
      refine lv_iload_n X.1 X.2.1 dX9_set_247 rfl (lv_at hl 2 rfl) ?_
      refine lv_iconst (v := 2) X.1 X.2.1 dX9_set_248 (by decide) ?_
      refine lv_icmp_ne (tgt := 262) X.1 X.2.1 dX9_set_249 (by decide) (fun c_34 => ?_) (fun c_34 => ?_)
      · have h := pz_f c_34 h
        refine lv_iload_n X.1 X.2.1 dX9_set_262 rfl (lv_at hl 2 rfl) ?_
        refine lv_iconst (v := 3) X.1 X.2.1 dX9_set_263 (by decide) ?_
        refine lv_icmp_ne (tgt := 277) X.1 X.2.1 dX9_set_264 (by decide) (fun c_35 => ?_) (fun c_35 => ?_)
        · have h := pz_f c_35 h
          refine lv_iload_n X.1 X.2.1 dX9_set_277 rfl (lv_at hl 2 rfl) ?_
          refine lv_iconst (v := 4) X.1 X.2.1 dX9_set_278 (by decide) ?_
          refine lv_icmp_ne (tgt := 292) X.1 X.2.1 dX9_set_279 (by decide) (fun c_36 => ?_) (fun c_36 => ?_)
          · have h := pz_f c_36 h
            refine lv_iload_n X.1 X.2.1 dX9_set_292 rfl (lv_at hl 2 rfl) ?_
            refine lv_iconst (v := 5) X.1 X.2.1 dX9_set_293 (by decide) ?_
            refine lv_icmp_ne (tgt := 305) X.1 X.2.1 dX9_set_294 (by decide) (fun c_37 => ?_) (fun c_37 => ?_)
            · have h := pz_f c_37 h
              refine lv_aload_n X.1 X.2.1 dX9_set_305 rfl (lv_at hl 1 rfl) ?_
              refine lv_iload_n X.1 X.2.1 dX9_set_306 rfl (lv_at hl 4 rfl) ?_
              refine pf_X9_41 X S hn (by decide) dX9_set_307 (fun J_38 H locs eJ_38 S => ?_)
              have h := pz_lt_e h eJ_38
              refine lv_iload X.1 X.2.1 dX9_set_310 (lv_at hl 0 rfl) ?_
              cases h
              exact r_iret X S dX9_set_312
            have h := pz_t c_37 h
            refine lv_aload_n X.1 X.2.1 dX9_set_297 rfl (lv_at hl 1 rfl) ?_
            refine lv_iload_n X.1 X.2.1 dX9_set_298 rfl (lv_at hl 4 rfl) ?_
            refine pf_X9_127 X S hn (by decide) dX9_set_299 (fun J_39 H locs eJ_39 S => ?_)
            have h := pz_lt_e h eJ_39
            refine lv_goto (tgt := 310) X.1 X.2.1 dX9_set_302 (by decide) ?_
            refine lv_iload X.1 X.2.1 dX9_set_310 (lv_at hl 0 rfl) ?_
            cases h
            exact r_iret X S dX9_set_312
          have h := pz_t c_36 h
          refine lv_aload_n X.1 X.2.1 dX9_set_282 rfl (lv_at hl 1 rfl) ?_
          refine gf_X9_38 X S hn (by decide) dX9_set_283 ?_
          refine lv_iload_n X.1 X.2.1 dX9_set_286 rfl (lv_at hl 3 rfl) ?_
          refine lv_iload_n X.1 X.2.1 dX9_set_287 rfl (lv_at hl 4 rfl) ?_
          obtain ⟨g_40, h⟩ := pz_gd_e h
          refine as_38 X S hn (by decide) g_40 dX9_set_288 (fun J_41 H locs eJ_41 S => ?_)
          have h := pz_lt_e h eJ_41
          refine lv_goto (tgt := 310) X.1 X.2.1 dX9_set_289 (by decide) ?_
          refine lv_iload X.1 X.2.1 dX9_set_310 (lv_at hl 0 rfl) ?_
          cases h
          exact r_iret X S dX9_set_312
        have h := pz_t c_35 h
        refine lv_aload_n X.1 X.2.1 dX9_set_267 rfl (lv_at hl 1 rfl) ?_
        refine gf_X9_35 X S hn (by decide) dX9_set_268 ?_
        refine lv_iload_n X.1 X.2.1 dX9_set_271 rfl (lv_at hl 3 rfl) ?_
        refine lv_iload_n X.1 X.2.1 dX9_set_272 rfl (lv_at hl 4 rfl) ?_
        obtain ⟨g_42, h⟩ := pz_gd_e h
        refine as_37 X S hn (by decide) g_42 dX9_set_273 (fun J_43 H locs eJ_43 S => ?_)
        have h := pz_lt_e h eJ_43
        refine lv_goto (tgt := 310) X.1 X.2.1 dX9_set_274 (by decide) ?_
        refine lv_iload X.1 X.2.1 dX9_set_310 (lv_at hl 0 rfl) ?_
        cases h
        exact r_iret X S dX9_set_312
      have h := pz_t c_34 h
      refine lv_aload_n X.1 X.2.1 dX9_set_252 rfl (lv_at hl 1 rfl) ?_
      refine gf_X9_32 X S hn (by decide) dX9_set_253 ?_
      refine lv_iload_n X.1 X.2.1 dX9_set_256 rfl (lv_at hl 3 rfl) ?_
      refine lv_iload_n X.1 X.2.1 dX9_set_257 rfl (lv_at hl 4 rfl) ?_
      obtain ⟨g_44, h⟩ := pz_gd_e h
      refine as_36 X S hn (by decide) g_44 dX9_set_258 (fun J_45 H locs eJ_45 S => ?_)
      have h := pz_lt_e h eJ_45
      refine lv_goto (tgt := 310) X.1 X.2.1 dX9_set_259 (by decide) ?_
      refine lv_iload X.1 X.2.1 dX9_set_310 (lv_at hl 0 rfl) ?_
      cases h
      exact r_iret X S dX9_set_312
    have h := pz_t c_33 h
    refine lv_aload_n X.1 X.2.1 dX9_set_237 rfl (lv_at hl 1 rfl) ?_
    refine gf_X9_26 X S hn (by decide) dX9_set_238 ?_
    refine lv_iload_n X.1 X.2.1 dX9_set_241 rfl (lv_at hl 3 rfl) ?_
    refine lv_iload_n X.1 X.2.1 dX9_set_242 rfl (lv_at hl 4 rfl) ?_
    obtain ⟨g_46, h⟩ := pz_gd_e h
    refine as_34 X S hn (by decide) g_46 dX9_set_243 (fun J_47 H locs eJ_47 S => ?_)
    have h := pz_lt_e h eJ_47
    refine lv_goto (tgt := 310) X.1 X.2.1 dX9_set_244 (by decide) ?_
    refine lv_iload X.1 X.2.1 dX9_set_310 (lv_at hl 0 rfl) ?_
    cases h
    exact r_iret X S dX9_set_312
  have h := pz_t c_32 h
  refine lv_aload_n X.1 X.2.1 dX9_set_222 rfl (lv_at hl 1 rfl) ?_
  refine gf_X9_23 X S hn (by decide) dX9_set_223 ?_
  refine lv_iload_n X.1 X.2.1 dX9_set_226 rfl (lv_at hl 3 rfl) ?_
  refine lv_iload_n X.1 X.2.1 dX9_set_227 rfl (lv_at hl 4 rfl) ?_
  obtain ⟨g_48, h⟩ := pz_gd_e h
  refine as_33 X S hn (by decide) g_48 dX9_set_228 (fun J_49 H locs eJ_49 S => ?_)
  have h := pz_lt_e h eJ_49
  refine lv_goto (tgt := 310) X.1 X.2.1 dX9_set_229 (by decide) ?_
  refine lv_iload X.1 X.2.1 dX9_set_310 (lv_at hl 0 rfl) ?_
  cases h
  exact r_iret X S dX9_set_312
def f_X9_set_L122 (N : Nat) (p1 : Int32) (p2 : Int32) (p3 : Int32) (J : mm_T) (a1 : Int32) (a2 : Int32) (a3 : Int32) (s0 : Int64) (s1 : Int64) (s2 : Int64) : Option (mm_T × Int32) := pz_bd (f_X9_in N s2 s1 s0) fun q_19 => if q_19 = 0 then (some (J, (-100000 : Int32))) else (if a1 = 0 then (pz_gd (ix_in a2 8) <| f_X9_set_L216 N p1 p2 p3 J a1 a2 a3 (J 33 0 a2.toNatClampNeg)) else (if a1 = (1 : Int32) then (pz_gd (ix_in a2 8) <| f_X9_set_L216 N p1 p2 p3 J a1 a2 a3 (J 34 0 a2.toNatClampNeg)) else (if a1 = (2 : Int32) then (pz_gd (ix_in a2 7) <| f_X9_set_L216 N p1 p2 p3 J a1 a2 a3 (J 36 0 a2.toNatClampNeg)) else (if a1 = (3 : Int32) then (pz_gd (ix_in a2 7) <| f_X9_set_L216 N p1 p2 p3 J a1 a2 a3 (J 37 0 a2.toNatClampNeg)) else (if a1 = (4 : Int32) then (pz_gd (ix_in a2 7) <| f_X9_set_L216 N p1 p2 p3 J a1 a2 a3 (J 38 0 a2.toNatClampNeg)) else (if a1 = (5 : Int32) then (f_X9_set_L216 N p1 p2 p3 J a1 a2 a3 (J 9 0 15)) else (f_X9_set_L216 N p1 p2 p3 J a1 a2 a3 (J 9 0 16))))))))
set_option maxRecDepth 100000 in
set_option maxHeartbeats 4000000 in
theorem w_X9_set_L122 {l : Launch} {G : cx_T} {p : Program} {e : Env} {s : State} {m : MethodId} {args : Array Value} {below : List Frame} {meth : Method} {c : Code} {N n : Nat} {I : mm_T} {p1 : Int32} {p2 : Int32} {p3 : Int32} (X : cx_ok G p s m args meth c cX9_set 5 RX9 (some .int)) (hn : 144 ≤ n) {z : mm_T × Int32} {J : mm_T} {a1 : Int32} {a2 : Int32} {a3 : Int32} {s0 : Int64} {s1 : Int64} {s2 : Int64} {H : Heap} {locs : List Loc} {ls : Array Slot} (h : f_X9_set_L122 N p1 p2 p3 J a1 a2 a3 s0 s1 s2 = some z) (S : st_ok G n I J s H locs) (hl : lv_has ls 5 [(0, .ref (cx_b G + ly_loc 9 0)), (1, .int a1), (2, .int a2), (3, .int a3)]) : W p l e ({ frames := 2, cells := 0, slots := 0, locals := 46 }) s m args below meth c H locs 0 0 (MQ below (ct_qi G n I z.1 z.2) args s 0 0 (cx_A G)) (F0 m 122 ls [.long s0, .long s1, .long s2]) := by
  unfold f_X9_set_L122 at h
  obtain ⟨q_19, eq_19, h⟩ := pz_bd_e h
  refine r_Si X S (c_X9_in eq_19) gd_X9_94 ny_X9_in ⟨rfl, rfl⟩ ⟨Nat.le_of_ble_eq_true rfl, Nat.le_of_ble_eq_true rfl⟩ rfl rfl hl.1 (Nat.le_of_ble_eq_true rfl) dX9_set_122 (fun H locs S => ?_)
  refine lv_if_ne (tgt := 131) X.1 X.2.1 dX9_set_125 (by decide) (fun c_20 => ?_) (fun c_20 => ?_)
  · have h := pz_f c_20 h
    refine lv_iload_n X.1 X.2.1 dX9_set_131 rfl (lv_at hl 1 rfl) ?_
    refine lv_if_ne (tgt := 144) X.1 X.2.1 dX9_set_132 (by decide) (fun c_21 => ?_) (fun c_21 => ?_)
    · have h := pz_f c_21 h
      refine lv_iload_n X.1 X.2.1 dX9_set_144 rfl (lv_at hl 1 rfl) ?_
      refine lv_iconst (v := 1) X.1 X.2.1 dX9_set_145 (by decide) ?_
      refine lv_icmp_ne (tgt := 158) X.1 X.2.1 dX9_set_146 (by decide) (fun c_22 => ?_) (fun c_22 => ?_)
      · have h := pz_f c_22 h
        refine lv_iload_n X.1 X.2.1 dX9_set_158 rfl (lv_at hl 1 rfl) ?_
        refine lv_iconst (v := 2) X.1 X.2.1 dX9_set_159 (by decide) ?_
        refine lv_icmp_ne (tgt := 172) X.1 X.2.1 dX9_set_160 (by decide) (fun c_23 => ?_) (fun c_23 => ?_)
        · have h := pz_f c_23 h
          refine lv_iload_n X.1 X.2.1 dX9_set_172 rfl (lv_at hl 1 rfl) ?_
          refine lv_iconst (v := 3) X.1 X.2.1 dX9_set_173 (by decide) ?_
          refine lv_icmp_ne (tgt := 186) X.1 X.2.1 dX9_set_174 (by decide) (fun c_24 => ?_) (fun c_24 => ?_)
          · have h := pz_f c_24 h
            refine lv_iload_n X.1 X.2.1 dX9_set_186 rfl (lv_at hl 1 rfl) ?_
            refine lv_iconst (v := 4) X.1 X.2.1 dX9_set_187 (by decide) ?_
            refine lv_icmp_ne (tgt := 200) X.1 X.2.1 dX9_set_188 (by decide) (fun c_25 => ?_) (fun c_25 => ?_)
            · have h := pz_f c_25 h
              refine lv_iload_n X.1 X.2.1 dX9_set_200 rfl (lv_at hl 1 rfl) ?_
              refine lv_iconst (v := 5) X.1 X.2.1 dX9_set_201 (by decide) ?_
              refine lv_icmp_ne (tgt := 212) X.1 X.2.1 dX9_set_202 (by decide) (fun c_26 => ?_) (fun c_26 => ?_)
              · have h := pz_f c_26 h
                refine lv_aload_n X.1 X.2.1 dX9_set_212 rfl (lv_at hl 0 rfl) ?_
                refine gf_X9_41 X S hn (by decide) dX9_set_213 ?_
                exact w_X9_set_L216 X hn h S (lv_sub hl [0, 1, 2, 3] rfl)
              have h := pz_t c_26 h
              refine lv_aload_n X.1 X.2.1 dX9_set_205 rfl (lv_at hl 0 rfl) ?_
              refine gf_X9_127 X S hn (by decide) dX9_set_206 ?_
              refine lv_goto (tgt := 216) X.1 X.2.1 dX9_set_209 (by decide) ?_
              exact w_X9_set_L216 X hn h S (lv_sub hl [0, 1, 2, 3] rfl)
            have h := pz_t c_25 h
            refine lv_aload_n X.1 X.2.1 dX9_set_191 rfl (lv_at hl 0 rfl) ?_
            refine gf_X9_38 X S hn (by decide) dX9_set_192 ?_
            refine lv_iload_n X.1 X.2.1 dX9_set_195 rfl (lv_at hl 2 rfl) ?_
            obtain ⟨g_27, h⟩ := pz_gd_e h
            refine al_38 X S hn (by decide) g_27 dX9_set_196 ?_
            refine lv_goto (tgt := 216) X.1 X.2.1 dX9_set_197 (by decide) ?_
            exact w_X9_set_L216 X hn h S (lv_sub hl [0, 1, 2, 3] rfl)
          have h := pz_t c_24 h
          refine lv_aload_n X.1 X.2.1 dX9_set_177 rfl (lv_at hl 0 rfl) ?_
          refine gf_X9_35 X S hn (by decide) dX9_set_178 ?_
          refine lv_iload_n X.1 X.2.1 dX9_set_181 rfl (lv_at hl 2 rfl) ?_
          obtain ⟨g_28, h⟩ := pz_gd_e h
          refine al_37 X S hn (by decide) g_28 dX9_set_182 ?_
          refine lv_goto (tgt := 216) X.1 X.2.1 dX9_set_183 (by decide) ?_
          exact w_X9_set_L216 X hn h S (lv_sub hl [0, 1, 2, 3] rfl)
        have h := pz_t c_23 h
        refine lv_aload_n X.1 X.2.1 dX9_set_163 rfl (lv_at hl 0 rfl) ?_
        refine gf_X9_32 X S hn (by decide) dX9_set_164 ?_
        refine lv_iload_n X.1 X.2.1 dX9_set_167 rfl (lv_at hl 2 rfl) ?_
        obtain ⟨g_29, h⟩ := pz_gd_e h
        refine al_36 X S hn (by decide) g_29 dX9_set_168 ?_
        refine lv_goto (tgt := 216) X.1 X.2.1 dX9_set_169 (by decide) ?_
        exact w_X9_set_L216 X hn h S (lv_sub hl [0, 1, 2, 3] rfl)
      have h := pz_t c_22 h
      refine lv_aload_n X.1 X.2.1 dX9_set_149 rfl (lv_at hl 0 rfl) ?_
      refine gf_X9_26 X S hn (by decide) dX9_set_150 ?_
      refine lv_iload_n X.1 X.2.1 dX9_set_153 rfl (lv_at hl 2 rfl) ?_
      obtain ⟨g_30, h⟩ := pz_gd_e h
      refine al_34 X S hn (by decide) g_30 dX9_set_154 ?_
      refine lv_goto (tgt := 216) X.1 X.2.1 dX9_set_155 (by decide) ?_
      exact w_X9_set_L216 X hn h S (lv_sub hl [0, 1, 2, 3] rfl)
    have h := pz_t c_21 h
    refine lv_aload_n X.1 X.2.1 dX9_set_135 rfl (lv_at hl 0 rfl) ?_
    refine gf_X9_23 X S hn (by decide) dX9_set_136 ?_
    refine lv_iload_n X.1 X.2.1 dX9_set_139 rfl (lv_at hl 2 rfl) ?_
    obtain ⟨g_31, h⟩ := pz_gd_e h
    refine al_33 X S hn (by decide) g_31 dX9_set_140 ?_
    refine lv_goto (tgt := 216) X.1 X.2.1 dX9_set_141 (by decide) ?_
    exact w_X9_set_L216 X hn h S (lv_sub hl [0, 1, 2, 3] rfl)
  have h := pz_t c_20 h
  refine lv_ldc (v := -100000) X.1 X.2.1 X.2.2.2.1 (X.2.2.2.2.1 _ kw_X9_122) dX9_set_128 ?_
  cases h
  exact r_iret X S dX9_set_130
def f_X9_set_L113 (N : Nat) (p1 : Int32) (p2 : Int32) (p3 : Int32) (J : mm_T) (a1 : Int32) (a2 : Int32) (a3 : Int32) (s0 : Int64) (s1 : Int64) : Option (mm_T × Int32) := f_X9_set_L122 N p1 p2 p3 J a1 a2 a3 (9 : Int64) s0 s1
set_option maxRecDepth 100000 in
set_option maxHeartbeats 4000000 in
theorem w_X9_set_L113 {l : Launch} {G : cx_T} {p : Program} {e : Env} {s : State} {m : MethodId} {args : Array Value} {below : List Frame} {meth : Method} {c : Code} {N n : Nat} {I : mm_T} {p1 : Int32} {p2 : Int32} {p3 : Int32} (X : cx_ok G p s m args meth c cX9_set 5 RX9 (some .int)) (hn : 144 ≤ n) {z : mm_T × Int32} {J : mm_T} {a1 : Int32} {a2 : Int32} {a3 : Int32} {s0 : Int64} {s1 : Int64} {H : Heap} {locs : List Loc} {ls : Array Slot} (h : f_X9_set_L113 N p1 p2 p3 J a1 a2 a3 s0 s1 = some z) (S : st_ok G n I J s H locs) (hl : lv_has ls 5 [(0, .ref (cx_b G + ly_loc 9 0)), (1, .int a1), (2, .int a2), (3, .int a3)]) : W p l e ({ frames := 2, cells := 0, slots := 0, locals := 46 }) s m args below meth c H locs 0 0 (MQ below (ct_qi G n I z.1 z.2) args s 0 0 (cx_A G)) (F0 m 113 ls [.long s0, .long s1]) := by
  unfold f_X9_set_L113 at h
  refine lv_ldc2 (v := 9) X.1 X.2.1 X.2.2.2.1 (X.2.2.2.2.1 _ kw_X9_125) dX9_set_113 ?_
  refine lv_goto (tgt := 122) X.1 X.2.1 dX9_set_116 (by decide) ?_
  exact w_X9_set_L122 X hn h S (lv_sub hl [0, 1, 2, 3] rfl)
def f_X9_set_L92 (N : Nat) (p1 : Int32) (p2 : Int32) (p3 : Int32) (J : mm_T) (a1 : Int32) (a2 : Int32) (a3 : Int32) (s0 : Int64) (s1 : Int64) : Option (mm_T × Int32) := if a1 = (1 : Int32) then (f_X9_set_L122 N p1 p2 p3 J a1 a2 a3 (7 : Int64) s0 s1) else (if a1 = (2 : Int32) then (f_X9_set_L113 N p1 p2 p3 J a1 a2 a3 s0 s1) else (if a1 = (3 : Int32) then (f_X9_set_L113 N p1 p2 p3 J a1 a2 a3 s0 s1) else (f_X9_set_L122 N p1 p2 p3 J a1 a2 a3 (99 : Int64) s0 s1)))
set_option maxRecDepth 100000 in
set_option maxHeartbeats 4000000 in
theorem w_X9_set_L92 {l : Launch} {G : cx_T} {p : Program} {e : Env} {s : State} {m : MethodId} {args : Array Value} {below : List Frame} {meth : Method} {c : Code} {N n : Nat} {I : mm_T} {p1 : Int32} {p2 : Int32} {p3 : Int32} (X : cx_ok G p s m args meth c cX9_set 5 RX9 (some .int)) (hn : 144 ≤ n) {z : mm_T × Int32} {J : mm_T} {a1 : Int32} {a2 : Int32} {a3 : Int32} {s0 : Int64} {s1 : Int64} {H : Heap} {locs : List Loc} {ls : Array Slot} (h : f_X9_set_L92 N p1 p2 p3 J a1 a2 a3 s0 s1 = some z) (S : st_ok G n I J s H locs) (hl : lv_has ls 5 [(0, .ref (cx_b G + ly_loc 9 0)), (1, .int a1), (2, .int a2), (3, .int a3)]) : W p l e ({ frames := 2, cells := 0, slots := 0, locals := 46 }) s m args below meth c H locs 0 0 (MQ below (ct_qi G n I z.1 z.2) args s 0 0 (cx_A G)) (F0 m 92 ls [.long s0, .long s1]) := by
  unfold f_X9_set_L92 at h
  refine lv_iload_n X.1 X.2.1 dX9_set_92 rfl (lv_at hl 1 rfl) ?_
  refine lv_iconst (v := 1) X.1 X.2.1 dX9_set_93 (by decide) ?_
  refine lv_icmp_ne (tgt := 103) X.1 X.2.1 dX9_set_94 (by decide) (fun c_16 => ?_) (fun c_16 => ?_)
  · have h := pz_f c_16 h
    refine lv_iload_n X.1 X.2.1 dX9_set_103 rfl (lv_at hl 1 rfl) ?_
    refine lv_iconst (v := 2) X.1 X.2.1 dX9_set_104 (by decide) ?_
    refine lv_icmp_eq (tgt := 113) X.1 X.2.1 dX9_set_105 (by decide) (fun c_17 => ?_) (fun c_17 => ?_)
    · have h := pz_t c_17 h
      exact w_X9_set_L113 X hn h S (lv_sub hl [0, 1, 2, 3] rfl)
    have h := pz_f c_17 h
    refine lv_iload_n X.1 X.2.1 dX9_set_108 rfl (lv_at hl 1 rfl) ?_
    refine lv_iconst (v := 3) X.1 X.2.1 dX9_set_109 (by decide) ?_
    refine lv_icmp_ne (tgt := 119) X.1 X.2.1 dX9_set_110 (by decide) (fun c_18 => ?_) (fun c_18 => ?_)
    · have h := pz_f c_18 h
      refine lv_ldc2 (v := 99) X.1 X.2.1 X.2.2.2.1 (X.2.2.2.2.1 _ kw_X9_101) dX9_set_119 ?_
      exact w_X9_set_L122 X hn h S (lv_sub hl [0, 1, 2, 3] rfl)
    have h := pz_t c_18 h
    exact w_X9_set_L113 X hn h S (lv_sub hl [0, 1, 2, 3] rfl)
  have h := pz_t c_16 h
  refine lv_ldc2 (v := 7) X.1 X.2.1 X.2.2.2.1 (X.2.2.2.2.1 _ kw_X9_103) dX9_set_97 ?_
  refine lv_goto (tgt := 122) X.1 X.2.1 dX9_set_100 (by decide) ?_
  exact w_X9_set_L122 X hn h S (lv_sub hl [0, 1, 2, 3] rfl)
def f_X9_set_L87 (N : Nat) (p1 : Int32) (p2 : Int32) (p3 : Int32) (J : mm_T) (a1 : Int32) (a2 : Int32) (a3 : Int32) (s0 : Int64) : Option (mm_T × Int32) := f_X9_set_L92 N p1 p2 p3 J a1 a2 a3 (1 : Int64) s0
set_option maxRecDepth 100000 in
set_option maxHeartbeats 4000000 in
theorem w_X9_set_L87 {l : Launch} {G : cx_T} {p : Program} {e : Env} {s : State} {m : MethodId} {args : Array Value} {below : List Frame} {meth : Method} {c : Code} {N n : Nat} {I : mm_T} {p1 : Int32} {p2 : Int32} {p3 : Int32} (X : cx_ok G p s m args meth c cX9_set 5 RX9 (some .int)) (hn : 144 ≤ n) {z : mm_T × Int32} {J : mm_T} {a1 : Int32} {a2 : Int32} {a3 : Int32} {s0 : Int64} {H : Heap} {locs : List Loc} {ls : Array Slot} (h : f_X9_set_L87 N p1 p2 p3 J a1 a2 a3 s0 = some z) (S : st_ok G n I J s H locs) (hl : lv_has ls 5 [(0, .ref (cx_b G + ly_loc 9 0)), (1, .int a1), (2, .int a2), (3, .int a3)]) : W p l e ({ frames := 2, cells := 0, slots := 0, locals := 46 }) s m args below meth c H locs 0 0 (MQ below (ct_qi G n I z.1 z.2) args s 0 0 (cx_A G)) (F0 m 87 ls [.long s0]) := by
  unfold f_X9_set_L87 at h
  refine lv_lconst (v := 1) X.1 X.2.1 dX9_set_87 (by decide) ?_
  refine lv_goto (tgt := 92) X.1 X.2.1 dX9_set_88 (by decide) ?_
  exact w_X9_set_L92 X hn h S (lv_sub hl [0, 1, 2, 3] rfl)
def f_X9_set_L63 (N : Nat) (p1 : Int32) (p2 : Int32) (p3 : Int32) (J : mm_T) (a1 : Int32) (a2 : Int32) (a3 : Int32) : Option (mm_T × Int32) := if a1 = (5 : Int32) then (f_X9_set_L92 N p1 p2 p3 J a1 a2 a3 (-99 : Int64) (a3.toInt64)) else (if a1 = (3 : Int32) then (f_X9_set_L87 N p1 p2 p3 J a1 a2 a3 (a3.toInt64)) else (if a1 = (6 : Int32) then (f_X9_set_L87 N p1 p2 p3 J a1 a2 a3 (a3.toInt64)) else (f_X9_set_L92 N p1 p2 p3 J a1 a2 a3 (0 : Int64) (a3.toInt64))))
set_option maxRecDepth 100000 in
set_option maxHeartbeats 4000000 in
theorem w_X9_set_L63 {l : Launch} {G : cx_T} {p : Program} {e : Env} {s : State} {m : MethodId} {args : Array Value} {below : List Frame} {meth : Method} {c : Code} {N n : Nat} {I : mm_T} {p1 : Int32} {p2 : Int32} {p3 : Int32} (X : cx_ok G p s m args meth c cX9_set 5 RX9 (some .int)) (hn : 144 ≤ n) {z : mm_T × Int32} {J : mm_T} {a1 : Int32} {a2 : Int32} {a3 : Int32} {H : Heap} {locs : List Loc} {ls : Array Slot} (h : f_X9_set_L63 N p1 p2 p3 J a1 a2 a3 = some z) (S : st_ok G n I J s H locs) (hl : lv_has ls 5 [(0, .ref (cx_b G + ly_loc 9 0)), (1, .int a1), (2, .int a2), (3, .int a3)]) : W p l e ({ frames := 2, cells := 0, slots := 0, locals := 46 }) s m args below meth c H locs 0 0 (MQ below (ct_qi G n I z.1 z.2) args s 0 0 (cx_A G)) (F0 m 63 ls []) := by
  unfold f_X9_set_L63 at h
  refine lv_iload_n X.1 X.2.1 dX9_set_63 rfl (lv_at hl 3 rfl) ?_
  refine lv_i2l X.1 X.2.1 dX9_set_64 rfl ?_
  refine lv_iload_n X.1 X.2.1 dX9_set_65 rfl (lv_at hl 1 rfl) ?_
  refine lv_iconst (v := 5) X.1 X.2.1 dX9_set_66 (by decide) ?_
  refine lv_icmp_ne (tgt := 76) X.1 X.2.1 dX9_set_67 (by decide) (fun c_13 => ?_) (fun c_13 => ?_)
  · have h := pz_f c_13 h
    refine lv_iload_n X.1 X.2.1 dX9_set_76 rfl (lv_at hl 1 rfl) ?_
    refine lv_iconst (v := 3) X.1 X.2.1 dX9_set_77 (by decide) ?_
    refine lv_icmp_eq (tgt := 87) X.1 X.2.1 dX9_set_78 (by decide) (fun c_14 => ?_) (fun c_14 => ?_)
    · have h := pz_t c_14 h
      exact w_X9_set_L87 X hn h S (lv_sub hl [0, 1, 2, 3] rfl)
    have h := pz_f c_14 h
    refine lv_iload_n X.1 X.2.1 dX9_set_81 rfl (lv_at hl 1 rfl) ?_
    refine lv_bipush (v := 6) X.1 X.2.1 dX9_set_82 (by decide) ?_
    refine lv_icmp_ne (tgt := 91) X.1 X.2.1 dX9_set_84 (by decide) (fun c_15 => ?_) (fun c_15 => ?_)
    · have h := pz_f c_15 h
      refine lv_lconst (v := 0) X.1 X.2.1 dX9_set_91 (by decide) ?_
      exact w_X9_set_L92 X hn h S (lv_sub hl [0, 1, 2, 3] rfl)
    have h := pz_t c_15 h
    exact w_X9_set_L87 X hn h S (lv_sub hl [0, 1, 2, 3] rfl)
  have h := pz_t c_13 h
  refine lv_ldc2 (v := -99) X.1 X.2.1 X.2.2.2.1 (X.2.2.2.2.1 _ kw_X9_123) dX9_set_70 ?_
  refine lv_goto (tgt := 92) X.1 X.2.1 dX9_set_73 (by decide) ?_
  exact w_X9_set_L92 X hn h S (lv_sub hl [0, 1, 2, 3] rfl)
def f_X9_set_L50 (N : Nat) (p1 : Int32) (p2 : Int32) (p3 : Int32) (J : mm_T) (a1 : Int32) (a2 : Int32) (a3 : Int32) : Option (mm_T × Int32) := if a1 = (4 : Int32) then (pz_bd (f_X9_isOne N J a3) fun q_11 => if q_11 = 0 then (some (J, (-100000 : Int32))) else (f_X9_set_L63 N p1 p2 p3 J a1 a2 a3)) else (f_X9_set_L63 N p1 p2 p3 J a1 a2 a3)
set_option maxRecDepth 100000 in
set_option maxHeartbeats 4000000 in
theorem w_X9_set_L50 {l : Launch} {G : cx_T} {p : Program} {e : Env} {s : State} {m : MethodId} {args : Array Value} {below : List Frame} {meth : Method} {c : Code} {N n : Nat} {I : mm_T} {p1 : Int32} {p2 : Int32} {p3 : Int32} (X : cx_ok G p s m args meth c cX9_set 5 RX9 (some .int)) (hn : 144 ≤ n) {z : mm_T × Int32} {J : mm_T} {a1 : Int32} {a2 : Int32} {a3 : Int32} {H : Heap} {locs : List Loc} {ls : Array Slot} (h : f_X9_set_L50 N p1 p2 p3 J a1 a2 a3 = some z) (S : st_ok G n I J s H locs) (hl : lv_has ls 5 [(0, .ref (cx_b G + ly_loc 9 0)), (1, .int a1), (2, .int a2), (3, .int a3)]) : W p l e ({ frames := 2, cells := 0, slots := 0, locals := 46 }) s m args below meth c H locs 0 0 (MQ below (ct_qi G n I z.1 z.2) args s 0 0 (cx_A G)) (F0 m 50 ls []) := by
  unfold f_X9_set_L50 at h
  refine lv_iload_n X.1 X.2.1 dX9_set_50 rfl (lv_at hl 1 rfl) ?_
  refine lv_iconst (v := 4) X.1 X.2.1 dX9_set_51 (by decide) ?_
  refine lv_icmp_ne (tgt := 63) X.1 X.2.1 dX9_set_52 (by decide) (fun c_10 => ?_) (fun c_10 => ?_)
  · have h := pz_f c_10 h
    exact w_X9_set_L63 X hn h S (lv_sub hl [0, 1, 2, 3] rfl)
  have h := pz_t c_10 h
  refine lv_aload_n X.1 X.2.1 dX9_set_55 rfl (lv_at hl 0 rfl) ?_
  refine lv_iload_n X.1 X.2.1 dX9_set_56 rfl (lv_at hl 3 rfl) ?_
  obtain ⟨q_11, eq_11, h⟩ := pz_bd_e h
  refine r_Vi X S (c_X9_isOne hn eq_11) gd_X9_109 ⟨rfl, ny_X9_isOne⟩ ⟨rfl, rfl⟩ ⟨Nat.le_of_ble_eq_true rfl, Nat.le_of_ble_eq_true rfl⟩ (r_recv X S (ly_ok_9 (by decide) hn) rfl rfl) rfl rfl hl.1 (Nat.le_of_ble_eq_true rfl) dX9_set_57 (fun H locs S => ?_)
  refine lv_if_eq (tgt := 128) X.1 X.2.1 dX9_set_60 (by decide) (fun c_12 => ?_) (fun c_12 => ?_)
  · have h := pz_t c_12 h
    refine lv_ldc (v := -100000) X.1 X.2.1 X.2.2.2.1 (X.2.2.2.2.1 _ kw_X9_122) dX9_set_128 ?_
    cases h
    exact r_iret X S dX9_set_130
  have h := pz_f c_12 h
  exact w_X9_set_L63 X hn h S (lv_sub hl [0, 1, 2, 3] rfl)
def f_X9_set_L25 (N : Nat) (p1 : Int32) (p2 : Int32) (p3 : Int32) (J : mm_T) (a1 : Int32) (a2 : Int32) (a3 : Int32) : Option (mm_T × Int32) := pz_bd (f_X9_in N (a1.toInt64) (2 : Int64) (4 : Int64)) fun q_6 => if q_6 = 0 then (f_X9_set_L50 N p1 p2 p3 J a1 a2 a3) else (pz_bd (f_X9_isSlip N J a2) fun q_8 => if q_8 = 0 then (some (J, (-100000 : Int32))) else (f_X9_set_L50 N p1 p2 p3 J a1 a2 a3))
set_option maxRecDepth 100000 in
set_option maxHeartbeats 4000000 in
theorem w_X9_set_L25 {l : Launch} {G : cx_T} {p : Program} {e : Env} {s : State} {m : MethodId} {args : Array Value} {below : List Frame} {meth : Method} {c : Code} {N n : Nat} {I : mm_T} {p1 : Int32} {p2 : Int32} {p3 : Int32} (X : cx_ok G p s m args meth c cX9_set 5 RX9 (some .int)) (hn : 144 ≤ n) {z : mm_T × Int32} {J : mm_T} {a1 : Int32} {a2 : Int32} {a3 : Int32} {H : Heap} {locs : List Loc} {ls : Array Slot} (h : f_X9_set_L25 N p1 p2 p3 J a1 a2 a3 = some z) (S : st_ok G n I J s H locs) (hl : lv_has ls 5 [(0, .ref (cx_b G + ly_loc 9 0)), (1, .int a1), (2, .int a2), (3, .int a3)]) : W p l e ({ frames := 2, cells := 0, slots := 0, locals := 46 }) s m args below meth c H locs 0 0 (MQ below (ct_qi G n I z.1 z.2) args s 0 0 (cx_A G)) (F0 m 25 ls []) := by
  unfold f_X9_set_L25 at h
  refine lv_iload_n X.1 X.2.1 dX9_set_25 rfl (lv_at hl 1 rfl) ?_
  refine lv_i2l X.1 X.2.1 dX9_set_26 rfl ?_
  refine lv_ldc2 (v := 2) X.1 X.2.1 X.2.2.2.1 (X.2.2.2.2.1 _ kw_X9_115) dX9_set_27 ?_
  refine lv_ldc2 (v := 4) X.1 X.2.1 X.2.2.2.1 (X.2.2.2.2.1 _ kw_X9_117) dX9_set_30 ?_
  obtain ⟨q_6, eq_6, h⟩ := pz_bd_e h
  refine r_Si X S (c_X9_in eq_6) gd_X9_94 ny_X9_in ⟨rfl, rfl⟩ ⟨Nat.le_of_ble_eq_true rfl, Nat.le_of_ble_eq_true rfl⟩ rfl rfl hl.1 (Nat.le_of_ble_eq_true rfl) dX9_set_33 (fun H locs S => ?_)
  refine lv_if_eq (tgt := 50) X.1 X.2.1 dX9_set_36 (by decide) (fun c_7 => ?_) (fun c_7 => ?_)
  · have h := pz_t c_7 h
    exact w_X9_set_L50 X hn h S (lv_sub hl [0, 1, 2, 3] rfl)
  have h := pz_f c_7 h
  refine lv_aload_n X.1 X.2.1 dX9_set_39 rfl (lv_at hl 0 rfl) ?_
  refine lv_iload_n X.1 X.2.1 dX9_set_40 rfl (lv_at hl 2 rfl) ?_
  obtain ⟨q_8, eq_8, h⟩ := pz_bd_e h
  refine r_Vi X S (c_X9_isSlip hn eq_8) gd_X9_119 ⟨rfl, ny_X9_isSlip⟩ ⟨rfl, rfl⟩ ⟨Nat.le_of_ble_eq_true rfl, Nat.le_of_ble_eq_true rfl⟩ (r_recv X S (ly_ok_9 (by decide) hn) rfl rfl) rfl rfl hl.1 (Nat.le_of_ble_eq_true rfl) dX9_set_41 (fun H locs S => ?_)
  refine lv_if_ne (tgt := 50) X.1 X.2.1 dX9_set_44 (by decide) (fun c_9 => ?_) (fun c_9 => ?_)
  · have h := pz_f c_9 h
    exact w_X9_set_L50 X hn h S (lv_sub hl [0, 1, 2, 3] rfl)
  have h := pz_t c_9 h
  refine lv_ldc (v := -100000) X.1 X.2.1 X.2.2.2.1 (X.2.2.2.2.1 _ kw_X9_122) dX9_set_47 ?_
  cases h
  exact r_iret X S dX9_set_49
def f_X9_set (N : Nat) (J : mm_T) (p1 : Int32) (p2 : Int32) (p3 : Int32) : Option (mm_T × Int32) := pz_bd (f_X9_in N (p1.toInt64) (0 : Int64) (6 : Int64)) fun q_1 => if q_1 = 0 then (some (J, (-100000 : Int32))) else (if (2 : Int32) ≤ p1 then (f_X9_set_L25 N p1 p2 p3 J p1 p2 p3) else (pz_bd (f_X9_isOne N J p2) fun q_4 => if q_4 = 0 then (some (J, (-100000 : Int32))) else (f_X9_set_L25 N p1 p2 p3 J p1 p2 p3)))
set_option maxRecDepth 100000 in
set_option maxHeartbeats 4000000 in
theorem c_X9_set {l : Launch} {G : cx_T} {N n : Nat} {I J : mm_T} {p1 : Int32} {p2 : Int32} {p3 : Int32} (hn : 144 ≤ n) {z : mm_T × Int32} (h : f_X9_set N J p1 p2 p3 = some z) : ct_m l G n yX9_set cX9_set 5 (some .int) ({ frames := 2, cells := 0, slots := 0, locals := 46 }) [.ref (cx_b G + ly_loc 9 0), .int p1, .int p2, .int p3] I J (ct_qi G n I z.1 z.2) := by
  refine ct_en (by decide) (Nat.le_of_ble_eq_true rfl) ?_
  intro p e s m args below meth c ls X S hl
  have X : cx_ok G p s m args meth c cX9_set 5 RX9 (some .int) := X
  have hl : lv_has ls 5 [(0, .ref (cx_b G + ly_loc 9 0)), (1, .int p1), (2, .int p2), (3, .int p3)] := hl
  unfold f_X9_set at h
  refine lv_iload_n X.1 X.2.1 dX9_set_0 rfl (lv_at hl 1 rfl) ?_
  refine lv_i2l X.1 X.2.1 dX9_set_1 rfl ?_
  refine lv_lconst (v := 0) X.1 X.2.1 dX9_set_2 (by decide) ?_
  refine lv_ldc2 (v := 6) X.1 X.2.1 X.2.2.2.1 (X.2.2.2.2.1 _ kw_X9_113) dX9_set_3 ?_
  obtain ⟨q_1, eq_1, h⟩ := pz_bd_e h
  refine r_Si X S (c_X9_in eq_1) gd_X9_94 ny_X9_in ⟨rfl, rfl⟩ ⟨Nat.le_of_ble_eq_true rfl, Nat.le_of_ble_eq_true rfl⟩ rfl rfl hl.1 (Nat.le_of_ble_eq_true rfl) dX9_set_6 (fun H locs S => ?_)
  refine lv_if_eq (tgt := 47) X.1 X.2.1 dX9_set_9 (by decide) (fun c_2 => ?_) (fun c_2 => ?_)
  · have h := pz_t c_2 h
    refine lv_ldc (v := -100000) X.1 X.2.1 X.2.2.2.1 (X.2.2.2.2.1 _ kw_X9_122) dX9_set_47 ?_
    cases h
    exact r_iret X S dX9_set_49
  have h := pz_f c_2 h
  refine lv_iload_n X.1 X.2.1 dX9_set_12 rfl (lv_at hl 1 rfl) ?_
  refine lv_iconst (v := 2) X.1 X.2.1 dX9_set_13 (by decide) ?_
  refine lv_icmp_ge (tgt := 25) X.1 X.2.1 dX9_set_14 (by decide) (fun c_3 => ?_) (fun c_3 => ?_)
  · have h := pz_t c_3 h
    exact w_X9_set_L25 X hn h S (lv_sub hl [0, 1, 2, 3] rfl)
  have h := pz_f c_3 h
  refine lv_aload_n X.1 X.2.1 dX9_set_17 rfl (lv_at hl 0 rfl) ?_
  refine lv_iload_n X.1 X.2.1 dX9_set_18 rfl (lv_at hl 2 rfl) ?_
  obtain ⟨q_4, eq_4, h⟩ := pz_bd_e h
  refine r_Vi X S (c_X9_isOne hn eq_4) gd_X9_109 ⟨rfl, ny_X9_isOne⟩ ⟨rfl, rfl⟩ ⟨Nat.le_of_ble_eq_true rfl, Nat.le_of_ble_eq_true rfl⟩ (r_recv X S (ly_ok_9 (by decide) hn) rfl rfl) rfl rfl hl.1 (Nat.le_of_ble_eq_true rfl) dX9_set_19 (fun H locs S => ?_)
  refine lv_if_eq (tgt := 47) X.1 X.2.1 dX9_set_22 (by decide) (fun c_5 => ?_) (fun c_5 => ?_)
  · have h := pz_t c_5 h
    refine lv_ldc (v := -100000) X.1 X.2.1 X.2.2.2.1 (X.2.2.2.2.1 _ kw_X9_122) dX9_set_47 ?_
    cases h
    exact r_iret X S dX9_set_49
  have h := pz_f c_5 h
  exact w_X9_set_L25 X hn h S (lv_sub hl [0, 1, 2, 3] rfl)
def f_X9_told_L39 (N : Nat) (J : mm_T) (p1 : Int32) (p2 : Int32) (a1 : Int32) (a2 : Int32) : Option (Int32) := if (2 : Int32) ≤ a2 then (if a2 = (2 : Int32) then (pz_gd (ix_in a1 7) <| some (J 36 0 a1.toNatClampNeg)) else (if a2 = (3 : Int32) then (pz_gd (ix_in a1 7) <| some (J 37 0 a1.toNatClampNeg)) else (if a2 = (4 : Int32) then (pz_gd (ix_in a1 7) <| some (J 38 0 a1.toNatClampNeg)) else (pz_gd (ix_in a1 7) <| some (J 35 0 a1.toNatClampNeg))))) else (if a2 = 0 then (pz_gd (ix_in a1 8) <| some (J 33 0 a1.toNatClampNeg)) else (pz_gd (ix_in a1 8) <| some (J 34 0 a1.toNatClampNeg)))
set_option maxRecDepth 100000 in
set_option maxHeartbeats 4000000 in
theorem w_X9_told_L39 {l : Launch} {G : cx_T} {p : Program} {e : Env} {s : State} {m : MethodId} {args : Array Value} {below : List Frame} {meth : Method} {c : Code} {N n : Nat} {I J : mm_T} {p1 : Int32} {p2 : Int32} (X : cx_ok G p s m args meth c cX9_told 3 RX9 (some .int)) (hn : 144 ≤ n) {z : Int32} {a1 : Int32} {a2 : Int32} {H : Heap} {locs : List Loc} {ls : Array Slot} (h : f_X9_told_L39 N J p1 p2 a1 a2 = some z) (S : st_ok G n I J s H locs) (hl : lv_has ls 3 [(0, .ref (cx_b G + ly_loc 9 0)), (1, .int a1), (2, .int a2)]) : W p l e ({ frames := 2, cells := 0, slots := 0, locals := 46 }) s m args below meth c H locs 0 0 (MQ below (ct_qi G n I J z) args s 0 0 (cx_A G)) (F0 m 39 ls []) := by
  unfold f_X9_told_L39 at h
  refine lv_iload_n X.1 X.2.1 dX9_told_39 rfl (lv_at hl 2 rfl) ?_
  refine lv_iconst (v := 2) X.1 X.2.1 dX9_told_40 (by decide) ?_
  refine lv_icmp_ge (tgt := 64) X.1 X.2.1 dX9_told_41 (by decide) (fun c_8 => ?_) (fun c_8 => ?_)
  · have h := pz_t c_8 h
    refine lv_iload_n X.1 X.2.1 dX9_told_64 rfl (lv_at hl 2 rfl) ?_
    refine lv_iconst (v := 2) X.1 X.2.1 dX9_told_65 (by decide) ?_
    refine lv_icmp_ne (tgt := 78) X.1 X.2.1 dX9_told_66 (by decide) (fun c_9 => ?_) (fun c_9 => ?_)
    · have h := pz_f c_9 h
      refine lv_iload_n X.1 X.2.1 dX9_told_78 rfl (lv_at hl 2 rfl) ?_
      refine lv_iconst (v := 3) X.1 X.2.1 dX9_told_79 (by decide) ?_
      refine lv_icmp_ne (tgt := 92) X.1 X.2.1 dX9_told_80 (by decide) (fun c_10 => ?_) (fun c_10 => ?_)
      · have h := pz_f c_10 h
        refine lv_iload_n X.1 X.2.1 dX9_told_92 rfl (lv_at hl 2 rfl) ?_
        refine lv_iconst (v := 4) X.1 X.2.1 dX9_told_93 (by decide) ?_
        refine lv_icmp_ne (tgt := 106) X.1 X.2.1 dX9_told_94 (by decide) (fun c_11 => ?_) (fun c_11 => ?_)
        · have h := pz_f c_11 h
          refine lv_aload_n X.1 X.2.1 dX9_told_106 rfl (lv_at hl 0 rfl) ?_
          refine gf_X9_29 X S hn (by decide) dX9_told_107 ?_
          refine lv_iload_n X.1 X.2.1 dX9_told_110 rfl (lv_at hl 1 rfl) ?_
          obtain ⟨g_12, h⟩ := pz_gd_e h
          refine al_35 X S hn (by decide) g_12 dX9_told_111 ?_
          cases h
          exact r_iret X S dX9_told_112
        have h := pz_t c_11 h
        refine lv_aload_n X.1 X.2.1 dX9_told_97 rfl (lv_at hl 0 rfl) ?_
        refine gf_X9_38 X S hn (by decide) dX9_told_98 ?_
        refine lv_iload_n X.1 X.2.1 dX9_told_101 rfl (lv_at hl 1 rfl) ?_
        obtain ⟨g_13, h⟩ := pz_gd_e h
        refine al_38 X S hn (by decide) g_13 dX9_told_102 ?_
        refine lv_goto (tgt := 112) X.1 X.2.1 dX9_told_103 (by decide) ?_
        cases h
        exact r_iret X S dX9_told_112
      have h := pz_t c_10 h
      refine lv_aload_n X.1 X.2.1 dX9_told_83 rfl (lv_at hl 0 rfl) ?_
      refine gf_X9_35 X S hn (by decide) dX9_told_84 ?_
      refine lv_iload_n X.1 X.2.1 dX9_told_87 rfl (lv_at hl 1 rfl) ?_
      obtain ⟨g_14, h⟩ := pz_gd_e h
      refine al_37 X S hn (by decide) g_14 dX9_told_88 ?_
      refine lv_goto (tgt := 112) X.1 X.2.1 dX9_told_89 (by decide) ?_
      cases h
      exact r_iret X S dX9_told_112
    have h := pz_t c_9 h
    refine lv_aload_n X.1 X.2.1 dX9_told_69 rfl (lv_at hl 0 rfl) ?_
    refine gf_X9_32 X S hn (by decide) dX9_told_70 ?_
    refine lv_iload_n X.1 X.2.1 dX9_told_73 rfl (lv_at hl 1 rfl) ?_
    obtain ⟨g_15, h⟩ := pz_gd_e h
    refine al_36 X S hn (by decide) g_15 dX9_told_74 ?_
    refine lv_goto (tgt := 112) X.1 X.2.1 dX9_told_75 (by decide) ?_
    cases h
    exact r_iret X S dX9_told_112
  have h := pz_f c_8 h
  refine lv_iload_n X.1 X.2.1 dX9_told_44 rfl (lv_at hl 2 rfl) ?_
  refine lv_if_ne (tgt := 57) X.1 X.2.1 dX9_told_45 (by decide) (fun c_16 => ?_) (fun c_16 => ?_)
  · have h := pz_f c_16 h
    refine lv_aload_n X.1 X.2.1 dX9_told_57 rfl (lv_at hl 0 rfl) ?_
    refine gf_X9_26 X S hn (by decide) dX9_told_58 ?_
    refine lv_iload_n X.1 X.2.1 dX9_told_61 rfl (lv_at hl 1 rfl) ?_
    obtain ⟨g_17, h⟩ := pz_gd_e h
    refine al_34 X S hn (by decide) g_17 dX9_told_62 ?_
    cases h
    exact r_iret X S dX9_told_63
  have h := pz_t c_16 h
  refine lv_aload_n X.1 X.2.1 dX9_told_48 rfl (lv_at hl 0 rfl) ?_
  refine gf_X9_23 X S hn (by decide) dX9_told_49 ?_
  refine lv_iload_n X.1 X.2.1 dX9_told_52 rfl (lv_at hl 1 rfl) ?_
  obtain ⟨g_18, h⟩ := pz_gd_e h
  refine al_33 X S hn (by decide) g_18 dX9_told_53 ?_
  refine lv_goto (tgt := 63) X.1 X.2.1 dX9_told_54 (by decide) ?_
  cases h
  exact r_iret X S dX9_told_63
def f_X9_told (N : Nat) (J : mm_T) (p1 : Int32) (p2 : Int32) : Option (Int32) := pz_bd (f_X9_in N (p2.toInt64) (0 : Int64) (5 : Int64)) fun q_1 => if q_1 = 0 then (some (-2 : Int32)) else (if (2 : Int32) ≤ p2 then (pz_bd (f_X9_isSlip N J p1) fun q_4 => if q_4 = 0 then (some (-2 : Int32)) else (f_X9_told_L39 N J p1 p2 p1 p2)) else (pz_bd (f_X9_isOne N J p1) fun q_6 => if q_6 = 0 then (some (-2 : Int32)) else (f_X9_told_L39 N J p1 p2 p1 p2)))
set_option maxRecDepth 100000 in
set_option maxHeartbeats 4000000 in
theorem c_X9_told {l : Launch} {G : cx_T} {N n : Nat} {I J : mm_T} {p1 : Int32} {p2 : Int32} (hn : 144 ≤ n) {z : Int32} (h : f_X9_told N J p1 p2 = some z) : ct_m l G n yX9_told cX9_told 3 (some .int) ({ frames := 2, cells := 0, slots := 0, locals := 46 }) [.ref (cx_b G + ly_loc 9 0), .int p1, .int p2] I J (ct_qi G n I J z) := by
  refine ct_en (by decide) (Nat.le_of_ble_eq_true rfl) ?_
  intro p e s m args below meth c ls X S hl
  have X : cx_ok G p s m args meth c cX9_told 3 RX9 (some .int) := X
  have hl : lv_has ls 3 [(0, .ref (cx_b G + ly_loc 9 0)), (1, .int p1), (2, .int p2)] := hl
  unfold f_X9_told at h
  refine lv_iload_n X.1 X.2.1 dX9_told_0 rfl (lv_at hl 2 rfl) ?_
  refine lv_i2l X.1 X.2.1 dX9_told_1 rfl ?_
  refine lv_lconst (v := 0) X.1 X.2.1 dX9_told_2 (by decide) ?_
  refine lv_ldc2 (v := 5) X.1 X.2.1 X.2.2.2.1 (X.2.2.2.2.1 _ kw_X9_105) dX9_told_3 ?_
  obtain ⟨q_1, eq_1, h⟩ := pz_bd_e h
  refine r_Si X S (c_X9_in eq_1) gd_X9_94 ny_X9_in ⟨rfl, rfl⟩ ⟨Nat.le_of_ble_eq_true rfl, Nat.le_of_ble_eq_true rfl⟩ rfl rfl hl.1 (Nat.le_of_ble_eq_true rfl) dX9_told_6 (fun H locs S => ?_)
  refine lv_if_eq (tgt := 36) X.1 X.2.1 dX9_told_9 (by decide) (fun c_2 => ?_) (fun c_2 => ?_)
  · have h := pz_t c_2 h
    refine lv_bipush (v := -2) X.1 X.2.1 dX9_told_36 (by decide) ?_
    cases h
    exact r_iret X S dX9_told_38
  have h := pz_f c_2 h
  refine lv_iload_n X.1 X.2.1 dX9_told_12 rfl (lv_at hl 2 rfl) ?_
  refine lv_iconst (v := 2) X.1 X.2.1 dX9_told_13 (by decide) ?_
  refine lv_icmp_ge (tgt := 28) X.1 X.2.1 dX9_told_14 (by decide) (fun c_3 => ?_) (fun c_3 => ?_)
  · have h := pz_t c_3 h
    refine lv_aload_n X.1 X.2.1 dX9_told_28 rfl (lv_at hl 0 rfl) ?_
    refine lv_iload_n X.1 X.2.1 dX9_told_29 rfl (lv_at hl 1 rfl) ?_
    obtain ⟨q_4, eq_4, h⟩ := pz_bd_e h
    refine r_Vi X S (c_X9_isSlip hn eq_4) gd_X9_119 ⟨rfl, ny_X9_isSlip⟩ ⟨rfl, rfl⟩ ⟨Nat.le_of_ble_eq_true rfl, Nat.le_of_ble_eq_true rfl⟩ (r_recv X S (ly_ok_9 (by decide) hn) rfl rfl) rfl rfl hl.1 (Nat.le_of_ble_eq_true rfl) dX9_told_30 (fun H locs S => ?_)
    refine lv_if_ne (tgt := 39) X.1 X.2.1 dX9_told_33 (by decide) (fun c_5 => ?_) (fun c_5 => ?_)
    · have h := pz_f c_5 h
      exact w_X9_told_L39 X hn h S (lv_sub hl [0, 1, 2] rfl)
    have h := pz_t c_5 h
    refine lv_bipush (v := -2) X.1 X.2.1 dX9_told_36 (by decide) ?_
    cases h
    exact r_iret X S dX9_told_38
  have h := pz_f c_3 h
  refine lv_aload_n X.1 X.2.1 dX9_told_17 rfl (lv_at hl 0 rfl) ?_
  refine lv_iload_n X.1 X.2.1 dX9_told_18 rfl (lv_at hl 1 rfl) ?_
  obtain ⟨q_6, eq_6, h⟩ := pz_bd_e h
  refine r_Vi X S (c_X9_isOne hn eq_6) gd_X9_109 ⟨rfl, ny_X9_isOne⟩ ⟨rfl, rfl⟩ ⟨Nat.le_of_ble_eq_true rfl, Nat.le_of_ble_eq_true rfl⟩ (r_recv X S (ly_ok_9 (by decide) hn) rfl rfl) rfl rfl hl.1 (Nat.le_of_ble_eq_true rfl) dX9_told_19 (fun H locs S => ?_)
  refine lv_if_eq (tgt := 36) X.1 X.2.1 dX9_told_22 (by decide) (fun c_7 => ?_) (fun c_7 => ?_)
  · have h := pz_t c_7 h
    refine lv_bipush (v := -2) X.1 X.2.1 dX9_told_36 (by decide) ?_
    cases h
    exact r_iret X S dX9_told_38
  have h := pz_f c_7 h
  refine lv_goto (tgt := 39) X.1 X.2.1 dX9_told_25 (by decide) ?_
  exact w_X9_told_L39 X hn h S (lv_sub hl [0, 1, 2] rfl)
def f_X9_moves (N : Nat) (J : mm_T) (p1 : Int32) (p2 : Int32) : Option (Int32) := pz_gd (ix_in p1 7) <| pz_lt (J 35 0 p1.toNatClampNeg) fun x_2 => pz_gd (ix_in p1 7) <| pz_lt ((1 : Int32) - (J 36 0 p1.toNatClampNeg)) fun x_4 => pz_gd (ix_in p1 7) <| pz_lt ((1 : Int32) + (J 36 0 p1.toNatClampNeg)) fun x_6 => if x_2 = (1 : Int32) then (if x_2 = (3 : Int32) then (if 0 ≤ p2 then (some x_4) else (some (0 : Int32))) else (some x_4)) else (if x_2 = (3 : Int32) then (if x_2 = (3 : Int32) then (if 0 ≤ p2 then (some x_4) else (some (0 : Int32))) else (some x_4)) else (if x_2 = (4 : Int32) then (if 0 ≤ p2 then (some x_6) else (some ((2 : Int32) * x_6))) else (if x_2 = (2 : Int32) then (some x_6) else (if x_2 = (5 : Int32) then (some (x_6 / (2 : Int32))) else (some (1 : Int32))))))
set_option maxRecDepth 100000 in
set_option maxHeartbeats 4000000 in
theorem c_X9_moves {l : Launch} {G : cx_T} {N n : Nat} {I J : mm_T} {p1 : Int32} {p2 : Int32} (hn : 144 ≤ n) {z : Int32} (h : f_X9_moves N J p1 p2 = some z) : ct_m l G n yX9_moves cX9_moves 6 (some .int) ({ frames := 0, cells := 0, slots := 0, locals := 0 }) [.ref (cx_b G + ly_loc 9 0), .int p1, .int p2] I J (ct_qi G n I J z) := by
  refine ct_en (by decide) (Nat.le_of_ble_eq_true rfl) ?_
  intro p e s m args below meth c ls X S hl
  have X : cx_ok G p s m args meth c cX9_moves 6 RX9 (some .int) := X
  have hl : lv_has ls 6 [(0, .ref (cx_b G + ly_loc 9 0)), (1, .int p1), (2, .int p2)] := hl
  unfold f_X9_moves at h
  refine lv_aload_n X.1 X.2.1 dX9_moves_0 rfl (lv_at hl 0 rfl) ?_
  refine gf_X9_29 X S hn (by decide) dX9_moves_1 ?_
  refine lv_iload_n X.1 X.2.1 dX9_moves_4 rfl (lv_at hl 1 rfl) ?_
  obtain ⟨g_1, h⟩ := pz_gd_e h
  refine al_35 X S hn (by decide) g_1 dX9_moves_5 ?_
  refine lv_topi (fun x_2 ex_2 => ?_)
  have h := pz_lt_e h ex_2
  refine lv_istore_n (lv' := [(3, .int x_2), (0, .ref (cx_b G + ly_loc 9 0)), (1, .int p1), (2, .int p2)]) X.1 X.2.1 dX9_moves_6 rfl hl (by decide) rfl (fun ls hl => ?_)
  refine lv_iconst (v := 1) X.1 X.2.1 dX9_moves_7 (by decide) ?_
  refine lv_aload_n X.1 X.2.1 dX9_moves_8 rfl (lv_at hl 1 rfl) ?_
  refine gf_X9_32 X S hn (by decide) dX9_moves_9 ?_
  refine lv_iload_n X.1 X.2.1 dX9_moves_12 rfl (lv_at hl 2 rfl) ?_
  obtain ⟨g_3, h⟩ := pz_gd_e h
  refine al_36 X S hn (by decide) g_3 dX9_moves_13 ?_
  refine lv_isub X.1 X.2.1 dX9_moves_14 ?_
  refine lv_topi (fun x_4 ex_4 => ?_)
  have h := pz_lt_e h ex_4
  refine lv_istore (lv' := [(4, .int x_4), (3, .int x_2), (0, .ref (cx_b G + ly_loc 9 0)), (1, .int p1), (2, .int p2)]) X.1 X.2.1 dX9_moves_15 hl (by decide) rfl (fun ls hl => ?_)
  refine lv_iconst (v := 1) X.1 X.2.1 dX9_moves_17 (by decide) ?_
  refine lv_aload_n X.1 X.2.1 dX9_moves_18 rfl (lv_at hl 2 rfl) ?_
  refine gf_X9_32 X S hn (by decide) dX9_moves_19 ?_
  refine lv_iload_n X.1 X.2.1 dX9_moves_22 rfl (lv_at hl 3 rfl) ?_
  obtain ⟨g_5, h⟩ := pz_gd_e h
  refine al_36 X S hn (by decide) g_5 dX9_moves_23 ?_
  refine lv_iadd X.1 X.2.1 dX9_moves_24 ?_
  refine lv_topi (fun x_6 ex_6 => ?_)
  have h := pz_lt_e h ex_6
  refine lv_istore (lv' := [(5, .int x_6), (4, .int x_4), (3, .int x_2), (0, .ref (cx_b G + ly_loc 9 0)), (1, .int p1), (2, .int p2)]) X.1 X.2.1 dX9_moves_25 hl (by decide) rfl (fun ls hl => ?_)
  refine lv_iload_n X.1 X.2.1 dX9_moves_27 rfl (lv_at hl 2 rfl) ?_
  refine lv_iconst (v := 1) X.1 X.2.1 dX9_moves_28 (by decide) ?_
  refine lv_icmp_eq (tgt := 37) X.1 X.2.1 dX9_moves_29 (by decide) (fun c_7 => ?_) (fun c_7 => ?_)
  · have h := pz_t c_7 h
    refine lv_iload_n X.1 X.2.1 dX9_moves_37 rfl (lv_at hl 2 rfl) ?_
    refine lv_iconst (v := 3) X.1 X.2.1 dX9_moves_38 (by decide) ?_
    refine lv_icmp_ne (tgt := 50) X.1 X.2.1 dX9_moves_39 (by decide) (fun c_8 => ?_) (fun c_8 => ?_)
    · have h := pz_f c_8 h
      refine lv_iload X.1 X.2.1 dX9_moves_50 (lv_at hl 1 rfl) ?_
      cases h
      exact r_iret X S dX9_moves_52
    have h := pz_t c_8 h
    refine lv_iload_n X.1 X.2.1 dX9_moves_42 rfl (lv_at hl 5 rfl) ?_
    refine lv_if_ge (tgt := 50) X.1 X.2.1 dX9_moves_43 (by decide) (fun c_9 => ?_) (fun c_9 => ?_)
    · have h := pz_t c_9 h
      refine lv_iload X.1 X.2.1 dX9_moves_50 (lv_at hl 1 rfl) ?_
      cases h
      exact r_iret X S dX9_moves_52
    have h := pz_f c_9 h
    refine lv_iconst (v := 0) X.1 X.2.1 dX9_moves_46 (by decide) ?_
    refine lv_goto (tgt := 52) X.1 X.2.1 dX9_moves_47 (by decide) ?_
    cases h
    exact r_iret X S dX9_moves_52
  have h := pz_f c_7 h
  refine lv_iload_n X.1 X.2.1 dX9_moves_32 rfl (lv_at hl 2 rfl) ?_
  refine lv_iconst (v := 3) X.1 X.2.1 dX9_moves_33 (by decide) ?_
  refine lv_icmp_ne (tgt := 53) X.1 X.2.1 dX9_moves_34 (by decide) (fun c_10 => ?_) (fun c_10 => ?_)
  · have h := pz_f c_10 h
    refine lv_iload_n X.1 X.2.1 dX9_moves_53 rfl (lv_at hl 2 rfl) ?_
    refine lv_iconst (v := 4) X.1 X.2.1 dX9_moves_54 (by decide) ?_
    refine lv_icmp_ne (tgt := 72) X.1 X.2.1 dX9_moves_55 (by decide) (fun c_11 => ?_) (fun c_11 => ?_)
    · have h := pz_f c_11 h
      refine lv_iload_n X.1 X.2.1 dX9_moves_72 rfl (lv_at hl 2 rfl) ?_
      refine lv_iconst (v := 2) X.1 X.2.1 dX9_moves_73 (by decide) ?_
      refine lv_icmp_ne (tgt := 82) X.1 X.2.1 dX9_moves_74 (by decide) (fun c_12 => ?_) (fun c_12 => ?_)
      · have h := pz_f c_12 h
        refine lv_iload_n X.1 X.2.1 dX9_moves_82 rfl (lv_at hl 2 rfl) ?_
        refine lv_iconst (v := 5) X.1 X.2.1 dX9_moves_83 (by decide) ?_
        refine lv_icmp_ne (tgt := 94) X.1 X.2.1 dX9_moves_84 (by decide) (fun c_13 => ?_) (fun c_13 => ?_)
        · have h := pz_f c_13 h
          refine lv_iconst (v := 1) X.1 X.2.1 dX9_moves_94 (by decide) ?_
          cases h
          exact r_iret X S dX9_moves_95
        have h := pz_t c_13 h
        refine lv_iload X.1 X.2.1 dX9_moves_87 (lv_at hl 0 rfl) ?_
        refine lv_iconst (v := 2) X.1 X.2.1 dX9_moves_89 (by decide) ?_
        refine lv_idiv X.1 X.2.1 dX9_moves_90 (by decide) ?_
        refine lv_goto (tgt := 95) X.1 X.2.1 dX9_moves_91 (by decide) ?_
        cases h
        exact r_iret X S dX9_moves_95
      have h := pz_t c_12 h
      refine lv_iload X.1 X.2.1 dX9_moves_77 (lv_at hl 0 rfl) ?_
      refine lv_goto (tgt := 95) X.1 X.2.1 dX9_moves_79 (by decide) ?_
      cases h
      exact r_iret X S dX9_moves_95
    have h := pz_t c_11 h
    refine lv_iload_n X.1 X.2.1 dX9_moves_58 rfl (lv_at hl 5 rfl) ?_
    refine lv_if_ge (tgt := 69) X.1 X.2.1 dX9_moves_59 (by decide) (fun c_14 => ?_) (fun c_14 => ?_)
    · have h := pz_t c_14 h
      refine lv_iload X.1 X.2.1 dX9_moves_69 (lv_at hl 0 rfl) ?_
      cases h
      exact r_iret X S dX9_moves_71
    have h := pz_f c_14 h
    refine lv_iconst (v := 2) X.1 X.2.1 dX9_moves_62 (by decide) ?_
    refine lv_iload X.1 X.2.1 dX9_moves_63 (lv_at hl 0 rfl) ?_
    refine lv_imul X.1 X.2.1 dX9_moves_65 ?_
    refine lv_goto (tgt := 71) X.1 X.2.1 dX9_moves_66 (by decide) ?_
    cases h
    exact r_iret X S dX9_moves_71
  have h := pz_t c_10 h
  refine lv_iload_n X.1 X.2.1 dX9_moves_37 rfl (lv_at hl 2 rfl) ?_
  refine lv_iconst (v := 3) X.1 X.2.1 dX9_moves_38 (by decide) ?_
  refine lv_icmp_ne (tgt := 50) X.1 X.2.1 dX9_moves_39 (by decide) (fun c_15 => ?_) (fun c_15 => ?_)
  · have h := pz_f c_15 h
    refine lv_iload X.1 X.2.1 dX9_moves_50 (lv_at hl 1 rfl) ?_
    cases h
    exact r_iret X S dX9_moves_52
  have h := pz_t c_15 h
  refine lv_iload_n X.1 X.2.1 dX9_moves_42 rfl (lv_at hl 5 rfl) ?_
  refine lv_if_ge (tgt := 50) X.1 X.2.1 dX9_moves_43 (by decide) (fun c_16 => ?_) (fun c_16 => ?_)
  · have h := pz_t c_16 h
    refine lv_iload X.1 X.2.1 dX9_moves_50 (lv_at hl 1 rfl) ?_
    cases h
    exact r_iret X S dX9_moves_52
  have h := pz_f c_16 h
  refine lv_iconst (v := 0) X.1 X.2.1 dX9_moves_46 (by decide) ?_
  refine lv_goto (tgt := 52) X.1 X.2.1 dX9_moves_47 (by decide) ?_
  cases h
  exact r_iret X S dX9_moves_52
def f_X9_thirst_L47 (N : Nat) (J : mm_T) (p1 : Int32) (p2 : Int32) (a2 : Int32) (a3 : Int32) (a4 : Int32) : Option (Int32) := if a3 = (5 : Int32) then (pz_lt (a2 + (3 : Int32)) fun x_12 => if 0 ≤ x_12 then (some x_12) else (some (0 : Int32))) else (if 0 ≤ a4 then (some a4) else (some (0 : Int32)))
set_option maxRecDepth 100000 in
set_option maxHeartbeats 4000000 in
theorem w_X9_thirst_L47 {l : Launch} {G : cx_T} {p : Program} {e : Env} {s : State} {m : MethodId} {args : Array Value} {below : List Frame} {meth : Method} {c : Code} {N n : Nat} {I J : mm_T} {p1 : Int32} {p2 : Int32} (X : cx_ok G p s m args meth c cX9_thirst 5 RX9 (some .int)) (hn : 144 ≤ n) {z : Int32} {a2 : Int32} {a3 : Int32} {a4 : Int32} {H : Heap} {locs : List Loc} {ls : Array Slot} (h : f_X9_thirst_L47 N J p1 p2 a2 a3 a4 = some z) (S : st_ok G n I J s H locs) (hl : lv_has ls 5 [(2, .int a2), (3, .int a3), (4, .int a4)]) : W p l e ({ frames := 0, cells := 0, slots := 0, locals := 0 }) s m args below meth c H locs 0 0 (MQ below (ct_qi G n I J z) args s 0 0 (cx_A G)) (F0 m 47 ls []) := by
  unfold f_X9_thirst_L47 at h
  refine lv_iload_n X.1 X.2.1 dX9_thirst_47 rfl (lv_at hl 1 rfl) ?_
  refine lv_iconst (v := 5) X.1 X.2.1 dX9_thirst_48 (by decide) ?_
  refine lv_icmp_ne (tgt := 57) X.1 X.2.1 dX9_thirst_49 (by decide) (fun c_10 => ?_) (fun c_10 => ?_)
  · have h := pz_f c_10 h
    refine lv_iload X.1 X.2.1 dX9_thirst_57 (lv_at hl 2 rfl) ?_
    refine lv_if_ge (tgt := 66) X.1 X.2.1 dX9_thirst_59 (by decide) (fun c_11 => ?_) (fun c_11 => ?_)
    · have h := pz_t c_11 h
      refine lv_iload X.1 X.2.1 dX9_thirst_66 (lv_at hl 2 rfl) ?_
      cases h
      exact r_iret X S dX9_thirst_68
    have h := pz_f c_11 h
    refine lv_iconst (v := 0) X.1 X.2.1 dX9_thirst_62 (by decide) ?_
    refine lv_goto (tgt := 68) X.1 X.2.1 dX9_thirst_63 (by decide) ?_
    cases h
    exact r_iret X S dX9_thirst_68
  have h := pz_t c_10 h
  refine lv_iload_n X.1 X.2.1 dX9_thirst_52 rfl (lv_at hl 0 rfl) ?_
  refine lv_iconst (v := 3) X.1 X.2.1 dX9_thirst_53 (by decide) ?_
  refine lv_iadd X.1 X.2.1 dX9_thirst_54 ?_
  refine lv_topi (fun x_12 ex_12 => ?_)
  have h := pz_lt_e h ex_12
  refine lv_istore (lv' := [(4, .int x_12), (2, .int a2), (3, .int a3)]) X.1 X.2.1 dX9_thirst_55 hl (by decide) rfl (fun ls hl => ?_)
  refine lv_iload X.1 X.2.1 dX9_thirst_57 (lv_at hl 0 rfl) ?_
  refine lv_if_ge (tgt := 66) X.1 X.2.1 dX9_thirst_59 (by decide) (fun c_13 => ?_) (fun c_13 => ?_)
  · have h := pz_t c_13 h
    refine lv_iload X.1 X.2.1 dX9_thirst_66 (lv_at hl 0 rfl) ?_
    cases h
    exact r_iret X S dX9_thirst_68
  have h := pz_f c_13 h
  refine lv_iconst (v := 0) X.1 X.2.1 dX9_thirst_62 (by decide) ?_
  refine lv_goto (tgt := 68) X.1 X.2.1 dX9_thirst_63 (by decide) ?_
  cases h
  exact r_iret X S dX9_thirst_68
def f_X9_thirst_L37 (N : Nat) (J : mm_T) (p1 : Int32) (p2 : Int32) (a2 : Int32) (a3 : Int32) (a4 : Int32) : Option (Int32) := if a3 = (4 : Int32) then (pz_lt (a2 + (1 : Int32)) fun x_9 => f_X9_thirst_L47 N J p1 p2 a2 a3 x_9) else (f_X9_thirst_L47 N J p1 p2 a2 a3 a4)
set_option maxRecDepth 100000 in
set_option maxHeartbeats 4000000 in
theorem w_X9_thirst_L37 {l : Launch} {G : cx_T} {p : Program} {e : Env} {s : State} {m : MethodId} {args : Array Value} {below : List Frame} {meth : Method} {c : Code} {N n : Nat} {I J : mm_T} {p1 : Int32} {p2 : Int32} (X : cx_ok G p s m args meth c cX9_thirst 5 RX9 (some .int)) (hn : 144 ≤ n) {z : Int32} {a2 : Int32} {a3 : Int32} {a4 : Int32} {H : Heap} {locs : List Loc} {ls : Array Slot} (h : f_X9_thirst_L37 N J p1 p2 a2 a3 a4 = some z) (S : st_ok G n I J s H locs) (hl : lv_has ls 5 [(2, .int a2), (3, .int a3), (4, .int a4)]) : W p l e ({ frames := 0, cells := 0, slots := 0, locals := 0 }) s m args below meth c H locs 0 0 (MQ below (ct_qi G n I J z) args s 0 0 (cx_A G)) (F0 m 37 ls []) := by
  unfold f_X9_thirst_L37 at h
  refine lv_iload_n X.1 X.2.1 dX9_thirst_37 rfl (lv_at hl 1 rfl) ?_
  refine lv_iconst (v := 4) X.1 X.2.1 dX9_thirst_38 (by decide) ?_
  refine lv_icmp_ne (tgt := 47) X.1 X.2.1 dX9_thirst_39 (by decide) (fun c_8 => ?_) (fun c_8 => ?_)
  · have h := pz_f c_8 h
    exact w_X9_thirst_L47 X hn h S (lv_sub hl [0, 1, 2] rfl)
  have h := pz_t c_8 h
  refine lv_iload_n X.1 X.2.1 dX9_thirst_42 rfl (lv_at hl 0 rfl) ?_
  refine lv_iconst (v := 1) X.1 X.2.1 dX9_thirst_43 (by decide) ?_
  refine lv_iadd X.1 X.2.1 dX9_thirst_44 ?_
  refine lv_topi (fun x_9 ex_9 => ?_)
  have h := pz_lt_e h ex_9
  refine lv_istore (lv' := [(4, .int x_9), (2, .int a2), (3, .int a3)]) X.1 X.2.1 dX9_thirst_45 hl (by decide) rfl (fun ls hl => ?_)
  exact w_X9_thirst_L47 X hn h S (lv_sub hl [1, 2, 0] rfl)
def f_X9_thirst_L20 (N : Nat) (J : mm_T) (p1 : Int32) (p2 : Int32) (a1 : Int32) (a2 : Int32) (a3 : Int32) (a4 : Int32) : Option (Int32) := if a3 = (3 : Int32) then (pz_gd (ix_in a1 7) <| pz_lt ((a2 / (2 : Int32)) + (J 36 0 a1.toNatClampNeg)) fun x_7 => f_X9_thirst_L37 N J p1 p2 a2 a3 x_7) else (f_X9_thirst_L37 N J p1 p2 a2 a3 a4)
set_option maxRecDepth 100000 in
set_option maxHeartbeats 4000000 in
theorem w_X9_thirst_L20 {l : Launch} {G : cx_T} {p : Program} {e : Env} {s : State} {m : MethodId} {args : Array Value} {below : List Frame} {meth : Method} {c : Code} {N n : Nat} {I J : mm_T} {p1 : Int32} {p2 : Int32} (X : cx_ok G p s m args meth c cX9_thirst 5 RX9 (some .int)) (hn : 144 ≤ n) {z : Int32} {a1 : Int32} {a2 : Int32} {a3 : Int32} {a4 : Int32} {H : Heap} {locs : List Loc} {ls : Array Slot} (h : f_X9_thirst_L20 N J p1 p2 a1 a2 a3 a4 = some z) (S : st_ok G n I J s H locs) (hl : lv_has ls 5 [(0, .ref (cx_b G + ly_loc 9 0)), (1, .int a1), (2, .int a2), (3, .int a3), (4, .int a4)]) : W p l e ({ frames := 0, cells := 0, slots := 0, locals := 0 }) s m args below meth c H locs 0 0 (MQ below (ct_qi G n I J z) args s 0 0 (cx_A G)) (F0 m 20 ls []) := by
  unfold f_X9_thirst_L20 at h
  refine lv_iload_n X.1 X.2.1 dX9_thirst_20 rfl (lv_at hl 3 rfl) ?_
  refine lv_iconst (v := 3) X.1 X.2.1 dX9_thirst_21 (by decide) ?_
  refine lv_icmp_ne (tgt := 37) X.1 X.2.1 dX9_thirst_22 (by decide) (fun c_5 => ?_) (fun c_5 => ?_)
  · have h := pz_f c_5 h
    exact w_X9_thirst_L37 X hn h S (lv_sub hl [2, 3, 4] rfl)
  have h := pz_t c_5 h
  refine lv_iload_n X.1 X.2.1 dX9_thirst_25 rfl (lv_at hl 2 rfl) ?_
  refine lv_iconst (v := 2) X.1 X.2.1 dX9_thirst_26 (by decide) ?_
  refine lv_idiv X.1 X.2.1 dX9_thirst_27 (by decide) ?_
  refine lv_aload_n X.1 X.2.1 dX9_thirst_28 rfl (lv_at hl 0 rfl) ?_
  refine gf_X9_32 X S hn (by decide) dX9_thirst_29 ?_
  refine lv_iload_n X.1 X.2.1 dX9_thirst_32 rfl (lv_at hl 1 rfl) ?_
  obtain ⟨g_6, h⟩ := pz_gd_e h
  refine al_36 X S hn (by decide) g_6 dX9_thirst_33 ?_
  refine lv_iadd X.1 X.2.1 dX9_thirst_34 ?_
  refine lv_topi (fun x_7 ex_7 => ?_)
  have h := pz_lt_e h ex_7
  refine lv_istore (lv' := [(4, .int x_7), (0, .ref (cx_b G + ly_loc 9 0)), (1, .int a1), (2, .int a2), (3, .int a3)]) X.1 X.2.1 dX9_thirst_35 hl (by decide) rfl (fun ls hl => ?_)
  exact w_X9_thirst_L37 X hn h S (lv_sub hl [3, 4, 0] rfl)
def f_X9_thirst (N : Nat) (J : mm_T) (p1 : Int32) (p2 : Int32) : Option (Int32) := pz_gd (ix_in p1 7) <| pz_lt (J 35 0 p1.toNatClampNeg) fun x_2 => if x_2 = (1 : Int32) then (pz_lt (p2 / (2 : Int32)) fun x_4 => f_X9_thirst_L20 N J p1 p2 p1 p2 x_2 x_4) else (f_X9_thirst_L20 N J p1 p2 p1 p2 x_2 p2)
set_option maxRecDepth 100000 in
set_option maxHeartbeats 4000000 in
theorem c_X9_thirst {l : Launch} {G : cx_T} {N n : Nat} {I J : mm_T} {p1 : Int32} {p2 : Int32} (hn : 144 ≤ n) {z : Int32} (h : f_X9_thirst N J p1 p2 = some z) : ct_m l G n yX9_thirst cX9_thirst 5 (some .int) ({ frames := 0, cells := 0, slots := 0, locals := 0 }) [.ref (cx_b G + ly_loc 9 0), .int p1, .int p2] I J (ct_qi G n I J z) := by
  refine ct_en (by decide) (Nat.le_of_ble_eq_true rfl) ?_
  intro p e s m args below meth c ls X S hl
  have X : cx_ok G p s m args meth c cX9_thirst 5 RX9 (some .int) := X
  have hl : lv_has ls 5 [(0, .ref (cx_b G + ly_loc 9 0)), (1, .int p1), (2, .int p2)] := hl
  unfold f_X9_thirst at h
  refine lv_aload_n X.1 X.2.1 dX9_thirst_0 rfl (lv_at hl 0 rfl) ?_
  refine gf_X9_29 X S hn (by decide) dX9_thirst_1 ?_
  refine lv_iload_n X.1 X.2.1 dX9_thirst_4 rfl (lv_at hl 1 rfl) ?_
  obtain ⟨g_1, h⟩ := pz_gd_e h
  refine al_35 X S hn (by decide) g_1 dX9_thirst_5 ?_
  refine lv_topi (fun x_2 ex_2 => ?_)
  have h := pz_lt_e h ex_2
  refine lv_istore_n (lv' := [(3, .int x_2), (0, .ref (cx_b G + ly_loc 9 0)), (1, .int p1), (2, .int p2)]) X.1 X.2.1 dX9_thirst_6 rfl hl (by decide) rfl (fun ls hl => ?_)
  refine lv_iload_n X.1 X.2.1 dX9_thirst_7 rfl (lv_at hl 3 rfl) ?_
  refine lv_istore (lv' := [(4, .int p2), (3, .int x_2), (0, .ref (cx_b G + ly_loc 9 0)), (1, .int p1), (2, .int p2)]) X.1 X.2.1 dX9_thirst_8 hl (by decide) rfl (fun ls hl => ?_)
  refine lv_iload_n X.1 X.2.1 dX9_thirst_10 rfl (lv_at hl 1 rfl) ?_
  refine lv_iconst (v := 1) X.1 X.2.1 dX9_thirst_11 (by decide) ?_
  refine lv_icmp_ne (tgt := 20) X.1 X.2.1 dX9_thirst_12 (by decide) (fun c_3 => ?_) (fun c_3 => ?_)
  · have h := pz_f c_3 h
    exact w_X9_thirst_L20 X hn h S (lv_sub hl [2, 3, 4, 1, 0] rfl)
  have h := pz_t c_3 h
  refine lv_iload_n X.1 X.2.1 dX9_thirst_15 rfl (lv_at hl 4 rfl) ?_
  refine lv_iconst (v := 2) X.1 X.2.1 dX9_thirst_16 (by decide) ?_
  refine lv_idiv X.1 X.2.1 dX9_thirst_17 (by decide) ?_
  refine lv_topi (fun x_4 ex_4 => ?_)
  have h := pz_lt_e h ex_4
  refine lv_istore (lv' := [(4, .int x_4), (3, .int x_2), (0, .ref (cx_b G + ly_loc 9 0)), (1, .int p1), (2, .int p2)]) X.1 X.2.1 dX9_thirst_18 hl (by decide) rfl (fun ls hl => ?_)
  exact w_X9_thirst_L20 X hn h S (lv_sub hl [2, 3, 4, 1, 0] rfl)
def f_X9_feed (N : Nat) (J : mm_T) (p1 : Int32) : Option (mm_T × Int32) := pz_bd (f_X9_in N (p1.toInt64) (0 : Int64) (255 : Int64)) fun q_1 => if q_1 = 0 then (some (J, (-2 : Int32))) else (if (J 9 0 6) = (160 : Int32) then (some (J, (-4 : Int32))) else (pz_gd (ix_in (J 9 0 6) 160) <| pz_lt (mm_up J 32 0 (J 9 0 6).toNatClampNeg p1) fun J_5 => pz_lt (mm_up J_5 9 0 6 ((J_5 9 0 6) + (1 : Int32))) fun J_6 => some (J_6, (J_6 9 0 6))))
set_option maxRecDepth 100000 in
set_option maxHeartbeats 4000000 in
theorem c_X9_feed {l : Launch} {G : cx_T} {N n : Nat} {I J : mm_T} {p1 : Int32} (hn : 144 ≤ n) {z : mm_T × Int32} (h : f_X9_feed N J p1 = some z) : ct_m l G n yX9_feed cX9_feed 2 (some .int) ({ frames := 1, cells := 0, slots := 0, locals := 25 }) [.ref (cx_b G + ly_loc 9 0), .int p1] I J (ct_qi G n I z.1 z.2) := by
  refine ct_en (by decide) (Nat.le_of_ble_eq_true rfl) ?_
  intro p e s m args below meth c ls X S hl
  have X : cx_ok G p s m args meth c cX9_feed 2 RX9 (some .int) := X
  have hl : lv_has ls 2 [(0, .ref (cx_b G + ly_loc 9 0)), (1, .int p1)] := hl
  unfold f_X9_feed at h
  refine lv_iload_n X.1 X.2.1 dX9_feed_0 rfl (lv_at hl 1 rfl) ?_
  refine lv_i2l X.1 X.2.1 dX9_feed_1 rfl ?_
  refine lv_lconst (v := 0) X.1 X.2.1 dX9_feed_2 (by decide) ?_
  refine lv_ldc2 (v := 255) X.1 X.2.1 X.2.2.2.1 (X.2.2.2.2.1 _ kw_X9_130) dX9_feed_3 ?_
  obtain ⟨q_1, eq_1, h⟩ := pz_bd_e h
  refine r_Si X S (c_X9_in eq_1) gd_X9_94 ny_X9_in ⟨rfl, rfl⟩ ⟨Nat.le_of_ble_eq_true rfl, Nat.le_of_ble_eq_true rfl⟩ rfl rfl hl.1 (Nat.le_of_ble_eq_true rfl) dX9_feed_6 (fun H locs S => ?_)
  refine lv_if_ne (tgt := 15) X.1 X.2.1 dX9_feed_9 (by decide) (fun c_2 => ?_) (fun c_2 => ?_)
  · have h := pz_f c_2 h
    refine lv_aload_n X.1 X.2.1 dX9_feed_15 rfl (lv_at hl 0 rfl) ?_
    refine gf_X9_132 X S hn (by decide) dX9_feed_16 ?_
    refine lv_sipush (v := 160) X.1 X.2.1 dX9_feed_19 (by decide) ?_
    refine lv_icmp_ne (tgt := 28) X.1 X.2.1 dX9_feed_22 (by decide) (fun c_3 => ?_) (fun c_3 => ?_)
    · have h := pz_f c_3 h
      refine lv_aload_n X.1 X.2.1 dX9_feed_28 rfl (lv_at hl 0 rfl) ?_
      refine gf_X9_20 X S hn (by decide) dX9_feed_29 ?_
      refine lv_aload_n X.1 X.2.1 dX9_feed_32 rfl (lv_at hl 0 rfl) ?_
      refine gf_X9_132 X S hn (by decide) dX9_feed_33 ?_
      refine lv_iload_n X.1 X.2.1 dX9_feed_36 rfl (lv_at hl 1 rfl) ?_
      obtain ⟨g_4, h⟩ := pz_gd_e h
      refine as_32 X S hn (by decide) g_4 dX9_feed_37 (fun J_5 H locs eJ_5 S => ?_)
      have h := pz_lt_e h eJ_5
      refine lv_aload_n X.1 X.2.1 dX9_feed_38 rfl (lv_at hl 0 rfl) ?_
      refine lv_dup X.1 X.2.1 dX9_feed_39 rfl ?_
      refine gf_X9_132 X S hn (by decide) dX9_feed_40 ?_
      refine lv_iconst (v := 1) X.1 X.2.1 dX9_feed_43 (by decide) ?_
      refine lv_iadd X.1 X.2.1 dX9_feed_44 ?_
      refine pf_X9_132 X S hn (by decide) dX9_feed_45 (fun J_6 H locs eJ_6 S => ?_)
      have h := pz_lt_e h eJ_6
      refine lv_aload_n X.1 X.2.1 dX9_feed_48 rfl (lv_at hl 0 rfl) ?_
      refine gf_X9_132 X S hn (by decide) dX9_feed_49 ?_
      cases h
      exact r_iret X S dX9_feed_52
    have h := pz_t c_3 h
    refine lv_bipush (v := -4) X.1 X.2.1 dX9_feed_25 (by decide) ?_
    cases h
    exact r_iret X S dX9_feed_27
  have h := pz_t c_2 h
  refine lv_bipush (v := -2) X.1 X.2.1 dX9_feed_12 (by decide) ?_
  cases h
  exact r_iret X S dX9_feed_14
def f_X9_byteAt (N : Nat) (J : mm_T) (p1 : Int32) : Option (Int32) := if (J 9 0 24) ≤ p1 then (some (-1 : Int32)) else (pz_gd (ix_in ((J 9 0 23) + p1) 960) <| some (J 30 0 ((J 9 0 23) + p1).toNatClampNeg))
set_option maxRecDepth 100000 in
set_option maxHeartbeats 4000000 in
theorem c_X9_byteAt {l : Launch} {G : cx_T} {N n : Nat} {I J : mm_T} {p1 : Int32} (hn : 144 ≤ n) {z : Int32} (h : f_X9_byteAt N J p1 = some z) : ct_m l G n yX9_byteAt cX9_byteAt 2 (some .int) ({ frames := 0, cells := 0, slots := 0, locals := 0 }) [.ref (cx_b G + ly_loc 9 0), .int p1] I J (ct_qi G n I J z) := by
  refine ct_en (by decide) (Nat.le_of_ble_eq_true rfl) ?_
  intro p e s m args below meth c ls X S hl
  have X : cx_ok G p s m args meth c cX9_byteAt 2 RX9 (some .int) := X
  have hl : lv_has ls 2 [(0, .ref (cx_b G + ly_loc 9 0)), (1, .int p1)] := hl
  unfold f_X9_byteAt at h
  refine lv_iload_n X.1 X.2.1 dX9_byteAt_0 rfl (lv_at hl 1 rfl) ?_
  refine lv_aload_n X.1 X.2.1 dX9_byteAt_1 rfl (lv_at hl 0 rfl) ?_
  refine gf_X9_135 X S hn (by decide) dX9_byteAt_2 ?_
  refine lv_icmp_ge (tgt := 22) X.1 X.2.1 dX9_byteAt_5 (by decide) (fun c_1 => ?_) (fun c_1 => ?_)
  · have h := pz_t c_1 h
    refine lv_iconst (v := -1) X.1 X.2.1 dX9_byteAt_22 (by decide) ?_
    cases h
    exact r_iret X S dX9_byteAt_23
  have h := pz_f c_1 h
  refine lv_aload_n X.1 X.2.1 dX9_byteAt_8 rfl (lv_at hl 0 rfl) ?_
  refine gf_X9_13 X S hn (by decide) dX9_byteAt_9 ?_
  refine lv_aload_n X.1 X.2.1 dX9_byteAt_12 rfl (lv_at hl 0 rfl) ?_
  refine gf_X9_138 X S hn (by decide) dX9_byteAt_13 ?_
  refine lv_iload_n X.1 X.2.1 dX9_byteAt_16 rfl (lv_at hl 1 rfl) ?_
  refine lv_iadd X.1 X.2.1 dX9_byteAt_17 ?_
  obtain ⟨g_2, h⟩ := pz_gd_e h
  refine al_30 X S hn (by decide) g_2 dX9_byteAt_18 ?_
  refine lv_goto (tgt := 23) X.1 X.2.1 dX9_byteAt_19 (by decide) ?_
  cases h
  exact r_iret X S dX9_byteAt_23
def f_X9_next_L26 (N : Nat) (k0 : mm_T → Option (mm_T)) (J : mm_T) : Option (mm_T) := pz_lt (mm_up J 9 0 25 ((J 9 0 25) + (1 : Int32))) fun J_27 => k0 J_27
set_option maxRecDepth 100000 in
set_option maxHeartbeats 4000000 in
theorem w_X9_next_L26 {l : Launch} {G : cx_T} {p : Program} {e : Env} {s : State} {m : MethodId} {args : Array Value} {below : List Frame} {meth : Method} {c : Code} {N n : Nat} {I : mm_T} (X : cx_ok G p s m args meth c cX9_next 3 RX9 none) (hn : 144 ≤ n) {k0 : mm_T → Option (mm_T)} {z : mm_T} (K0 : ∀ {J : mm_T} {H : Heap} {locs : List Loc} {ls : Array Slot}, k0 J = some z → st_ok G n I J s H locs → lv_has ls 3 [(0, .ref (cx_b G + ly_loc 9 0))] → W p l e ({ frames := 1, cells := 0, slots := 0, locals := 25 }) s m args below meth c H locs 0 0 (MQ below (ct_qv G n I z) args s 0 0 (cx_A G)) (F0 m 0 ls [])) {J : mm_T} {H : Heap} {locs : List Loc} {ls : Array Slot} (h : f_X9_next_L26 N k0 J = some z) (S : st_ok G n I J s H locs) (hl : lv_has ls 3 [(0, .ref (cx_b G + ly_loc 9 0))]) : W p l e ({ frames := 1, cells := 0, slots := 0, locals := 25 }) s m args below meth c H locs 0 0 (MQ below (ct_qv G n I z) args s 0 0 (cx_A G)) (F0 m 26 ls []) := by
  unfold f_X9_next_L26 at h
  refine lv_aload_n X.1 X.2.1 dX9_next_26 rfl (lv_at hl 0 rfl) ?_
  refine lv_dup X.1 X.2.1 dX9_next_27 rfl ?_
  refine gf_X9_141 X S hn (by decide) dX9_next_28 ?_
  refine lv_iconst (v := 1) X.1 X.2.1 dX9_next_31 (by decide) ?_
  refine lv_iadd X.1 X.2.1 dX9_next_32 ?_
  refine pf_X9_141 X S hn (by decide) dX9_next_33 (fun J_27 H locs eJ_27 S => ?_)
  have h := pz_lt_e h eJ_27
  refine lv_goto (tgt := 0) X.1 X.2.1 dX9_next_36 (by decide) ?_
  exact K0 h S (lv_sub hl [0] rfl)
def f_X9_next_L100 (N : Nat) : Nat → mm_T → Option (mm_T)
  | 0, _ => none
  | cnt + 1, J => pz_bd (f_X9_byteAt N J (J 9 0 25)) fun q_40 => pz_bd (f_X9_in N (q_40.toInt64) (97 : Int64) (122 : Int64)) fun q_41 => if q_41 = 0 then (some J) else (pz_lt (mm_up J 9 0 25 ((J 9 0 25) + (1 : Int32))) fun J_43 => f_X9_next_L100 N cnt J_43)
set_option maxRecDepth 100000 in
set_option maxHeartbeats 4000000 in
theorem w_X9_next_L100 {l : Launch} {G : cx_T} {p : Program} {e : Env} {s : State} {m : MethodId} {args : Array Value} {below : List Frame} {meth : Method} {c : Code} {N n : Nat} {I : mm_T} (X : cx_ok G p s m args meth c cX9_next 3 RX9 none) (hn : 144 ≤ n) {z : mm_T} : ∀ (cnt : Nat) {J : mm_T} {H : Heap} {locs : List Loc} {ls : Array Slot} , f_X9_next_L100 N cnt J = some z → st_ok G n I J s H locs → lv_has ls 3 [(0, .ref (cx_b G + ly_loc 9 0))] → W p l e ({ frames := 1, cells := 0, slots := 0, locals := 25 }) s m args below meth c H locs 0 0 (MQ below (ct_qv G n I z) args s 0 0 (cx_A G)) (F0 m 100 ls []) := by
  intro cnt
  induction cnt with
  | zero =>
    intro J H locs ls h
    rw [f_X9_next_L100] at h
    cases h
  | succ cnt ih =>
    intro J H locs ls h S hl
    rw [f_X9_next_L100] at h
    refine lv_aload_n X.1 X.2.1 dX9_next_100 rfl (lv_at hl 0 rfl) ?_
    refine lv_aload_n X.1 X.2.1 dX9_next_101 rfl (lv_at hl 0 rfl) ?_
    refine gf_X9_141 X S hn (by decide) dX9_next_102 ?_
    obtain ⟨q_40, eq_40, h⟩ := pz_bd_e h
    refine r_Vi X S (c_X9_byteAt hn eq_40) gd_X9_144 ⟨rfl, ny_X9_byteAt⟩ ⟨rfl, rfl⟩ ⟨Nat.le_of_ble_eq_true rfl, Nat.le_of_ble_eq_true rfl⟩ (r_recv X S (ly_ok_9 (by decide) hn) rfl rfl) rfl rfl hl.1 (Nat.le_of_ble_eq_true rfl) dX9_next_105 (fun H locs S => ?_)
    refine lv_i2l X.1 X.2.1 dX9_next_108 rfl ?_
    refine lv_ldc2 (v := 97) X.1 X.2.1 X.2.2.2.1 (X.2.2.2.2.1 _ kw_X9_154) dX9_next_109 ?_
    refine lv_ldc2 (v := 122) X.1 X.2.1 X.2.2.2.1 (X.2.2.2.2.1 _ kw_X9_156) dX9_next_112 ?_
    obtain ⟨q_41, eq_41, h⟩ := pz_bd_e h
    refine r_Si X S (c_X9_in eq_41) gd_X9_94 ny_X9_in ⟨rfl, rfl⟩ ⟨Nat.le_of_ble_eq_true rfl, Nat.le_of_ble_eq_true rfl⟩ rfl rfl hl.1 (Nat.le_of_ble_eq_true rfl) dX9_next_115 (fun H locs S => ?_)
    refine lv_if_eq (tgt := 321) X.1 X.2.1 dX9_next_118 (by decide) (fun c_42 => ?_) (fun c_42 => ?_)
    · have h := pz_t c_42 h
      cases h
      exact r_vret X S dX9_next_321
    have h := pz_f c_42 h
    refine lv_aload_n X.1 X.2.1 dX9_next_121 rfl (lv_at hl 0 rfl) ?_
    refine lv_dup X.1 X.2.1 dX9_next_122 rfl ?_
    refine gf_X9_141 X S hn (by decide) dX9_next_123 ?_
    refine lv_iconst (v := 1) X.1 X.2.1 dX9_next_126 (by decide) ?_
    refine lv_iadd X.1 X.2.1 dX9_next_127 ?_
    refine pf_X9_141 X S hn (by decide) dX9_next_128 (fun J_43 H locs eJ_43 S => ?_)
    have h := pz_lt_e h eJ_43
    refine lv_goto (tgt := 100) X.1 X.2.1 dX9_next_131 (by decide) ?_
    exact ih h S (lv_sub hl [0] rfl)
def f_X9_next_L216 (N : Nat) (k160 : mm_T → Int32 → Option (mm_T)) (J : mm_T) (a2 : Int32) (s0 : Int64) : Option (mm_T) := pz_gd (decide (s0.toInt32.toInt64 = s0)) <| pz_lt (mm_up J 9 0 28 (s0.toInt32)) fun J_45 => pz_lt (a2 + (1 : Int32)) fun x_46 => pz_lt (mm_up J_45 9 0 25 ((J_45 9 0 25) + (1 : Int32))) fun J_47 => k160 J_47 x_46
set_option maxRecDepth 100000 in
set_option maxHeartbeats 4000000 in
theorem w_X9_next_L216 {l : Launch} {G : cx_T} {p : Program} {e : Env} {s : State} {m : MethodId} {args : Array Value} {below : List Frame} {meth : Method} {c : Code} {N n : Nat} {I : mm_T} (X : cx_ok G p s m args meth c cX9_next 3 RX9 none) (hn : 144 ≤ n) {k160 : mm_T → Int32 → Option (mm_T)} {z : mm_T} (K160 : ∀ {J : mm_T} {a2 : Int32} {H : Heap} {locs : List Loc} {ls : Array Slot}, k160 J a2 = some z → st_ok G n I J s H locs → lv_has ls 3 [(0, .ref (cx_b G + ly_loc 9 0)), (2, .int a2)] → W p l e ({ frames := 1, cells := 0, slots := 0, locals := 25 }) s m args below meth c H locs 0 0 (MQ below (ct_qv G n I z) args s 0 0 (cx_A G)) (F0 m 160 ls [])) {J : mm_T} {a2 : Int32} {s0 : Int64} {H : Heap} {locs : List Loc} {ls : Array Slot} (h : f_X9_next_L216 N k160 J a2 s0 = some z) (S : st_ok G n I J s H locs) (hl : lv_has ls 3 [(0, .ref (cx_b G + ly_loc 9 0)), (2, .int a2)]) : W p l e ({ frames := 1, cells := 0, slots := 0, locals := 25 }) s m args below meth c H locs 0 0 (MQ below (ct_qv G n I z) args s 0 0 (cx_A G)) (F0 m 216 ls [.long s0, .ref (cx_b G + ly_loc 9 0)]) := by
  unfold f_X9_next_L216 at h
  obtain ⟨g_44, h⟩ := pz_gd_e h
  refine pf_X9_162 X S hn (by decide) (of_decide_eq_true g_44) dX9_next_216 (fun J_45 H locs eJ_45 S => ?_)
  have h := pz_lt_e h eJ_45
  obtain ⟨x_46, ex_46⟩ : ∃ y : Int32, y = (a2 + (1 : Int32)) := ⟨_, rfl⟩
  have h := pz_lt_e h ex_46
  refine lv_iinc (v := x_46) (lv' := [(2, .int x_46), (0, .ref (cx_b G + ly_loc 9 0))]) X.1 X.2.1 dX9_next_219 hl (k := 1) rfl (by rw [ex_46]; rfl) (by decide) rfl (fun ls hl => ?_)
  refine lv_aload_n X.1 X.2.1 dX9_next_222 rfl (lv_at hl 1 rfl) ?_
  refine lv_dup X.1 X.2.1 dX9_next_223 rfl ?_
  refine gf_X9_141 X S hn (by decide) dX9_next_224 ?_
  refine lv_iconst (v := 1) X.1 X.2.1 dX9_next_227 (by decide) ?_
  refine lv_iadd X.1 X.2.1 dX9_next_228 ?_
  refine pf_X9_141 X S hn (by decide) dX9_next_229 (fun J_47 H locs eJ_47 S => ?_)
  have h := pz_lt_e h eJ_47
  refine lv_goto (tgt := 160) X.1 X.2.1 dX9_next_232 (by decide) ?_
  exact K160 h S (lv_sub hl [1, 0] rfl)
def f_X9_next_L160 (N : Nat) : Nat → mm_T → Int32 → Option (mm_T)
  | 0, _, _ => none
  | cnt + 1, J, a2 => pz_bd (f_X9_byteAt N J (J 9 0 25)) fun q_32 => pz_bd (f_X9_in N (q_32.toInt64) (48 : Int64) (57 : Int64)) fun q_33 => if q_33 = 0 then (if a2 ≤ (4 : Int32) then (pz_lt (mm_up J 9 0 26 (2 : Int32)) fun J_36 => some J_36) else (pz_lt (mm_up J 9 0 26 (4 : Int32)) fun J_37 => some J_37)) else (if (4 : Int32) ≤ a2 then (f_X9_next_L216 N (f_X9_next_L160 N cnt) J a2 ((J 9 0 28).toInt64)) else (pz_bd (f_X9_byteAt N J (J 9 0 25)) fun q_39 => f_X9_next_L216 N (f_X9_next_L160 N cnt) J a2 ((((10 : Int64) * ((J 9 0 28).toInt64)) + (q_39.toInt64)) - (48 : Int64))))
set_option maxRecDepth 100000 in
set_option maxHeartbeats 4000000 in
theorem w_X9_next_L160 {l : Launch} {G : cx_T} {p : Program} {e : Env} {s : State} {m : MethodId} {args : Array Value} {below : List Frame} {meth : Method} {c : Code} {N n : Nat} {I : mm_T} (X : cx_ok G p s m args meth c cX9_next 3 RX9 none) (hn : 144 ≤ n) {z : mm_T} : ∀ (cnt : Nat) {J : mm_T} {a2 : Int32} {H : Heap} {locs : List Loc} {ls : Array Slot} , f_X9_next_L160 N cnt J a2 = some z → st_ok G n I J s H locs → lv_has ls 3 [(0, .ref (cx_b G + ly_loc 9 0)), (2, .int a2)] → W p l e ({ frames := 1, cells := 0, slots := 0, locals := 25 }) s m args below meth c H locs 0 0 (MQ below (ct_qv G n I z) args s 0 0 (cx_A G)) (F0 m 160 ls []) := by
  intro cnt
  induction cnt with
  | zero =>
    intro J a2 H locs ls h
    rw [f_X9_next_L160] at h
    cases h
  | succ cnt ih =>
    intro J a2 H locs ls h S hl
    rw [f_X9_next_L160] at h
    refine lv_aload_n X.1 X.2.1 dX9_next_160 rfl (lv_at hl 0 rfl) ?_
    refine lv_aload_n X.1 X.2.1 dX9_next_161 rfl (lv_at hl 0 rfl) ?_
    refine gf_X9_141 X S hn (by decide) dX9_next_162 ?_
    obtain ⟨q_32, eq_32, h⟩ := pz_bd_e h
    refine r_Vi X S (c_X9_byteAt hn eq_32) gd_X9_144 ⟨rfl, ny_X9_byteAt⟩ ⟨rfl, rfl⟩ ⟨Nat.le_of_ble_eq_true rfl, Nat.le_of_ble_eq_true rfl⟩ (r_recv X S (ly_ok_9 (by decide) hn) rfl rfl) rfl rfl hl.1 (Nat.le_of_ble_eq_true rfl) dX9_next_165 (fun H locs S => ?_)
    refine lv_i2l X.1 X.2.1 dX9_next_168 rfl ?_
    refine lv_ldc2 (v := 48) X.1 X.2.1 X.2.2.2.1 (X.2.2.2.2.1 _ kw_X9_158) dX9_next_169 ?_
    refine lv_ldc2 (v := 57) X.1 X.2.1 X.2.2.2.1 (X.2.2.2.2.1 _ kw_X9_160) dX9_next_172 ?_
    obtain ⟨q_33, eq_33, h⟩ := pz_bd_e h
    refine r_Si X S (c_X9_in eq_33) gd_X9_94 ny_X9_in ⟨rfl, rfl⟩ ⟨Nat.le_of_ble_eq_true rfl, Nat.le_of_ble_eq_true rfl⟩ rfl rfl hl.1 (Nat.le_of_ble_eq_true rfl) dX9_next_175 (fun H locs S => ?_)
    refine lv_if_eq (tgt := 235) X.1 X.2.1 dX9_next_178 (by decide) (fun c_34 => ?_) (fun c_34 => ?_)
    · have h := pz_t c_34 h
      refine lv_aload_n X.1 X.2.1 dX9_next_235 rfl (lv_at hl 0 rfl) ?_
      refine lv_iload_n X.1 X.2.1 dX9_next_236 rfl (lv_at hl 1 rfl) ?_
      refine lv_iconst (v := 4) X.1 X.2.1 dX9_next_237 (by decide) ?_
      refine lv_icmp_le (tgt := 245) X.1 X.2.1 dX9_next_238 (by decide) (fun c_35 => ?_) (fun c_35 => ?_)
      · have h := pz_t c_35 h
        refine lv_iconst (v := 2) X.1 X.2.1 dX9_next_245 (by decide) ?_
        refine pf_X9_151 X S hn (by decide) dX9_next_246 (fun J_36 H locs eJ_36 S => ?_)
        have h := pz_lt_e h eJ_36
        refine lv_goto (tgt := 321) X.1 X.2.1 dX9_next_249 (by decide) ?_
        cases h
        exact r_vret X S dX9_next_321
      have h := pz_f c_35 h
      refine lv_iconst (v := 4) X.1 X.2.1 dX9_next_241 (by decide) ?_
      refine lv_goto (tgt := 246) X.1 X.2.1 dX9_next_242 (by decide) ?_
      refine pf_X9_151 X S hn (by decide) dX9_next_246 (fun J_37 H locs eJ_37 S => ?_)
      have h := pz_lt_e h eJ_37
      refine lv_goto (tgt := 321) X.1 X.2.1 dX9_next_249 (by decide) ?_
      cases h
      exact r_vret X S dX9_next_321
    have h := pz_f c_34 h
    refine lv_aload_n X.1 X.2.1 dX9_next_181 rfl (lv_at hl 0 rfl) ?_
    refine lv_iload_n X.1 X.2.1 dX9_next_182 rfl (lv_at hl 1 rfl) ?_
    refine lv_iconst (v := 4) X.1 X.2.1 dX9_next_183 (by decide) ?_
    refine lv_icmp_ge (tgt := 212) X.1 X.2.1 dX9_next_184 (by decide) (fun c_38 => ?_) (fun c_38 => ?_)
    · have h := pz_t c_38 h
      refine lv_aload_n X.1 X.2.1 dX9_next_212 rfl (lv_at hl 0 rfl) ?_
      refine gf_X9_162 X S hn (by decide) dX9_next_213 ?_
      exact w_X9_next_L216 X hn ih h S (lv_sub hl [0, 1] rfl)
    have h := pz_f c_38 h
    refine lv_ldc2 (v := 10) X.1 X.2.1 X.2.2.2.1 (X.2.2.2.2.1 _ kw_X9_107) dX9_next_187 ?_
    refine lv_aload_n X.1 X.2.1 dX9_next_190 rfl (lv_at hl 0 rfl) ?_
    refine gf_X9_162 X S hn (by decide) dX9_next_191 ?_
    refine lv_lmul X.1 X.2.1 dX9_next_194 ?_
    refine lv_aload_n X.1 X.2.1 dX9_next_195 rfl (lv_at hl 0 rfl) ?_
    refine lv_aload_n X.1 X.2.1 dX9_next_196 rfl (lv_at hl 0 rfl) ?_
    refine gf_X9_141 X S hn (by decide) dX9_next_197 ?_
    obtain ⟨q_39, eq_39, h⟩ := pz_bd_e h
    refine r_Vi X S (c_X9_byteAt hn eq_39) gd_X9_144 ⟨rfl, ny_X9_byteAt⟩ ⟨rfl, rfl⟩ ⟨Nat.le_of_ble_eq_true rfl, Nat.le_of_ble_eq_true rfl⟩ (r_recv X S (ly_ok_9 (by decide) hn) rfl rfl) rfl rfl hl.1 (Nat.le_of_ble_eq_true rfl) dX9_next_200 (fun H locs S => ?_)
    refine lv_i2l X.1 X.2.1 dX9_next_203 rfl ?_
    refine lv_ladd X.1 X.2.1 dX9_next_204 ?_
    refine lv_ldc2 (v := 48) X.1 X.2.1 X.2.2.2.1 (X.2.2.2.2.1 _ kw_X9_158) dX9_next_205 ?_
    refine lv_lsub X.1 X.2.1 dX9_next_208 ?_
    refine lv_goto (tgt := 216) X.1 X.2.1 dX9_next_209 (by decide) ?_
    exact w_X9_next_L216 X hn ih h S (lv_sub hl [0, 1] rfl)
def f_X9_next_L300 (N : Nat) (J : mm_T) (a1 : Int32) : Option (mm_T) := pz_lt (mm_up J 9 0 26 (3 : Int32)) fun J_28 => pz_gd (decide ((a1.toInt64).toInt32.toInt64 = (a1.toInt64))) <| pz_lt (mm_up J_28 9 0 28 ((a1.toInt64).toInt32)) fun J_30 => pz_lt (mm_up J_30 9 0 25 ((J_30 9 0 25) + (1 : Int32))) fun J_31 => some J_31
set_option maxRecDepth 100000 in
set_option maxHeartbeats 4000000 in
theorem w_X9_next_L300 {l : Launch} {G : cx_T} {p : Program} {e : Env} {s : State} {m : MethodId} {args : Array Value} {below : List Frame} {meth : Method} {c : Code} {N n : Nat} {I : mm_T} (X : cx_ok G p s m args meth c cX9_next 3 RX9 none) (hn : 144 ≤ n) {z : mm_T} {J : mm_T} {a1 : Int32} {H : Heap} {locs : List Loc} {ls : Array Slot} (h : f_X9_next_L300 N J a1 = some z) (S : st_ok G n I J s H locs) (hl : lv_has ls 3 [(0, .ref (cx_b G + ly_loc 9 0)), (1, .int a1)]) : W p l e ({ frames := 1, cells := 0, slots := 0, locals := 25 }) s m args below meth c H locs 0 0 (MQ below (ct_qv G n I z) args s 0 0 (cx_A G)) (F0 m 300 ls []) := by
  unfold f_X9_next_L300 at h
  refine lv_aload_n X.1 X.2.1 dX9_next_300 rfl (lv_at hl 0 rfl) ?_
  refine lv_iconst (v := 3) X.1 X.2.1 dX9_next_301 (by decide) ?_
  refine pf_X9_151 X S hn (by decide) dX9_next_302 (fun J_28 H locs eJ_28 S => ?_)
  have h := pz_lt_e h eJ_28
  refine lv_aload_n X.1 X.2.1 dX9_next_305 rfl (lv_at hl 0 rfl) ?_
  refine lv_iload_n X.1 X.2.1 dX9_next_306 rfl (lv_at hl 1 rfl) ?_
  refine lv_i2l X.1 X.2.1 dX9_next_307 rfl ?_
  obtain ⟨g_29, h⟩ := pz_gd_e h
  refine pf_X9_162 X S hn (by decide) (of_decide_eq_true g_29) dX9_next_308 (fun J_30 H locs eJ_30 S => ?_)
  have h := pz_lt_e h eJ_30
  refine lv_aload_n X.1 X.2.1 dX9_next_311 rfl (lv_at hl 0 rfl) ?_
  refine lv_dup X.1 X.2.1 dX9_next_312 rfl ?_
  refine gf_X9_141 X S hn (by decide) dX9_next_313 ?_
  refine lv_iconst (v := 1) X.1 X.2.1 dX9_next_316 (by decide) ?_
  refine lv_iadd X.1 X.2.1 dX9_next_317 ?_
  refine pf_X9_141 X S hn (by decide) dX9_next_318 (fun J_31 H locs eJ_31 S => ?_)
  have h := pz_lt_e h eJ_31
  cases h
  exact r_vret X S dX9_next_321
def f_X9_next_L0 (N : Nat) : Nat → mm_T → Option (mm_T)
  | 0, _ => none
  | cnt + 1, J => pz_bd (f_X9_byteAt N J (J 9 0 25)) fun q_1 => if q_1 = (32 : Int32) then (f_X9_next_L26 N (f_X9_next_L0 N cnt) J) else (pz_bd (f_X9_byteAt N J (J 9 0 25)) fun q_3 => if q_3 = (10 : Int32) then (f_X9_next_L26 N (f_X9_next_L0 N cnt) J) else (pz_lt (mm_up J 9 0 27 (J 9 0 25)) fun J_5 => pz_bd (f_X9_byteAt N J_5 (J_5 9 0 25)) fun q_6 => pz_lt (mm_up J_5 9 0 26 (4 : Int32)) fun J_7 => if 0 ≤ q_6 then (pz_bd (f_X9_in N (q_6.toInt64) (97 : Int64) (122 : Int64)) fun q_9 => if q_9 = 0 then (pz_bd (f_X9_in N (q_6.toInt64) (48 : Int64) (57 : Int64)) fun q_11 => if q_11 = 0 then (if q_6 = (40 : Int32) then (f_X9_next_L300 N J_7 q_6) else (if q_6 = (41 : Int32) then (f_X9_next_L300 N J_7 q_6) else (if q_6 = (59 : Int32) then (f_X9_next_L300 N J_7 q_6) else (if q_6 = (43 : Int32) then (f_X9_next_L300 N J_7 q_6) else (if q_6 = (45 : Int32) then (f_X9_next_L300 N J_7 q_6) else (if q_6 = (42 : Int32) then (f_X9_next_L300 N J_7 q_6) else (if q_6 = (60 : Int32) then (f_X9_next_L300 N J_7 q_6) else (if q_6 = (61 : Int32) then (f_X9_next_L300 N J_7 q_6) else (some J_7))))))))) else (pz_lt (mm_up J_7 9 0 26 (2 : Int32)) fun J_21 => pz_gd (decide ((0 : Int64).toInt32.toInt64 = (0 : Int64))) <| pz_lt (mm_up J_21 9 0 28 ((0 : Int64).toInt32)) fun J_23 => f_X9_next_L160 N N J_23 (0 : Int32))) else (pz_lt (mm_up J_7 9 0 26 (1 : Int32)) fun J_24 => f_X9_next_L100 N N J_24)) else (pz_lt (mm_up J_7 9 0 26 (0 : Int32)) fun J_25 => pz_lt (mm_up J_25 9 0 27 (J_25 9 0 24)) fun J_26 => some J_26)))
set_option maxRecDepth 100000 in
set_option maxHeartbeats 4000000 in
theorem w_X9_next_L0 {l : Launch} {G : cx_T} {p : Program} {e : Env} {s : State} {m : MethodId} {args : Array Value} {below : List Frame} {meth : Method} {c : Code} {N n : Nat} {I : mm_T} (X : cx_ok G p s m args meth c cX9_next 3 RX9 none) (hn : 144 ≤ n) {z : mm_T} : ∀ (cnt : Nat) {J : mm_T} {H : Heap} {locs : List Loc} {ls : Array Slot} , f_X9_next_L0 N cnt J = some z → st_ok G n I J s H locs → lv_has ls 3 [(0, .ref (cx_b G + ly_loc 9 0))] → W p l e ({ frames := 1, cells := 0, slots := 0, locals := 25 }) s m args below meth c H locs 0 0 (MQ below (ct_qv G n I z) args s 0 0 (cx_A G)) (F0 m 0 ls []) := by
  intro cnt
  induction cnt with
  | zero =>
    intro J H locs ls h
    rw [f_X9_next_L0] at h
    cases h
  | succ cnt ih =>
    intro J H locs ls h S hl
    rw [f_X9_next_L0] at h
    refine lv_aload_n X.1 X.2.1 dX9_next_0 rfl (lv_at hl 0 rfl) ?_
    refine lv_aload_n X.1 X.2.1 dX9_next_1 rfl (lv_at hl 0 rfl) ?_
    refine gf_X9_141 X S hn (by decide) dX9_next_2 ?_
    obtain ⟨q_1, eq_1, h⟩ := pz_bd_e h
    refine r_Vi X S (c_X9_byteAt hn eq_1) gd_X9_144 ⟨rfl, ny_X9_byteAt⟩ ⟨rfl, rfl⟩ ⟨Nat.le_of_ble_eq_true rfl, Nat.le_of_ble_eq_true rfl⟩ (r_recv X S (ly_ok_9 (by decide) hn) rfl rfl) rfl rfl hl.1 (Nat.le_of_ble_eq_true rfl) dX9_next_5 (fun H locs S => ?_)
    refine lv_bipush (v := 32) X.1 X.2.1 dX9_next_8 (by decide) ?_
    refine lv_icmp_eq (tgt := 26) X.1 X.2.1 dX9_next_10 (by decide) (fun c_2 => ?_) (fun c_2 => ?_)
    · have h := pz_t c_2 h
      exact w_X9_next_L26 X hn ih h S (lv_sub hl [0] rfl)
    have h := pz_f c_2 h
    refine lv_aload_n X.1 X.2.1 dX9_next_13 rfl (lv_at hl 0 rfl) ?_
    refine lv_aload_n X.1 X.2.1 dX9_next_14 rfl (lv_at hl 0 rfl) ?_
    refine gf_X9_141 X S hn (by decide) dX9_next_15 ?_
    obtain ⟨q_3, eq_3, h⟩ := pz_bd_e h
    refine r_Vi X S (c_X9_byteAt hn eq_3) gd_X9_144 ⟨rfl, ny_X9_byteAt⟩ ⟨rfl, rfl⟩ ⟨Nat.le_of_ble_eq_true rfl, Nat.le_of_ble_eq_true rfl⟩ (r_recv X S (ly_ok_9 (by decide) hn) rfl rfl) rfl rfl hl.1 (Nat.le_of_ble_eq_true rfl) dX9_next_18 (fun H locs S => ?_)
    refine lv_bipush (v := 10) X.1 X.2.1 dX9_next_21 (by decide) ?_
    refine lv_icmp_ne (tgt := 39) X.1 X.2.1 dX9_next_23 (by decide) (fun c_4 => ?_) (fun c_4 => ?_)
    · have h := pz_f c_4 h
      refine lv_aload_n X.1 X.2.1 dX9_next_39 rfl (lv_at hl 0 rfl) ?_
      refine lv_aload_n X.1 X.2.1 dX9_next_40 rfl (lv_at hl 0 rfl) ?_
      refine gf_X9_141 X S hn (by decide) dX9_next_41 ?_
      refine pf_X9_148 X S hn (by decide) dX9_next_44 (fun J_5 H locs eJ_5 S => ?_)
      have h := pz_lt_e h eJ_5
      refine lv_aload_n X.1 X.2.1 dX9_next_47 rfl (lv_at hl 0 rfl) ?_
      refine lv_aload_n X.1 X.2.1 dX9_next_48 rfl (lv_at hl 0 rfl) ?_
      refine gf_X9_141 X S hn (by decide) dX9_next_49 ?_
      obtain ⟨q_6, eq_6, h⟩ := pz_bd_e h
      refine r_Vi X S (c_X9_byteAt hn eq_6) gd_X9_144 ⟨rfl, ny_X9_byteAt⟩ ⟨rfl, rfl⟩ ⟨Nat.le_of_ble_eq_true rfl, Nat.le_of_ble_eq_true rfl⟩ (r_recv X S (ly_ok_9 (by decide) hn) rfl rfl) rfl rfl hl.1 (Nat.le_of_ble_eq_true rfl) dX9_next_52 (fun H locs S => ?_)
      refine lv_istore_n (lv' := [(1, .int q_6), (0, .ref (cx_b G + ly_loc 9 0))]) X.1 X.2.1 dX9_next_55 rfl hl (by decide) rfl (fun ls hl => ?_)
      refine lv_aload_n X.1 X.2.1 dX9_next_56 rfl (lv_at hl 1 rfl) ?_
      refine lv_iconst (v := 4) X.1 X.2.1 dX9_next_57 (by decide) ?_
      refine pf_X9_151 X S hn (by decide) dX9_next_58 (fun J_7 H locs eJ_7 S => ?_)
      have h := pz_lt_e h eJ_7
      refine lv_iload_n X.1 X.2.1 dX9_next_61 rfl (lv_at hl 0 rfl) ?_
      refine lv_if_ge (tgt := 81) X.1 X.2.1 dX9_next_62 (by decide) (fun c_8 => ?_) (fun c_8 => ?_)
      · have h := pz_t c_8 h
        refine lv_iload_n X.1 X.2.1 dX9_next_81 rfl (lv_at hl 0 rfl) ?_
        refine lv_i2l X.1 X.2.1 dX9_next_82 rfl ?_
        refine lv_ldc2 (v := 97) X.1 X.2.1 X.2.2.2.1 (X.2.2.2.2.1 _ kw_X9_154) dX9_next_83 ?_
        refine lv_ldc2 (v := 122) X.1 X.2.1 X.2.2.2.1 (X.2.2.2.2.1 _ kw_X9_156) dX9_next_86 ?_
        obtain ⟨q_9, eq_9, h⟩ := pz_bd_e h
        refine r_Si X S (c_X9_in eq_9) gd_X9_94 ny_X9_in ⟨rfl, rfl⟩ ⟨Nat.le_of_ble_eq_true rfl, Nat.le_of_ble_eq_true rfl⟩ rfl rfl hl.1 (Nat.le_of_ble_eq_true rfl) dX9_next_89 (fun H locs S => ?_)
        refine lv_if_eq (tgt := 134) X.1 X.2.1 dX9_next_92 (by decide) (fun c_10 => ?_) (fun c_10 => ?_)
        · have h := pz_t c_10 h
          refine lv_iload_n X.1 X.2.1 dX9_next_134 rfl (lv_at hl 0 rfl) ?_
          refine lv_i2l X.1 X.2.1 dX9_next_135 rfl ?_
          refine lv_ldc2 (v := 48) X.1 X.2.1 X.2.2.2.1 (X.2.2.2.2.1 _ kw_X9_158) dX9_next_136 ?_
          refine lv_ldc2 (v := 57) X.1 X.2.1 X.2.2.2.1 (X.2.2.2.2.1 _ kw_X9_160) dX9_next_139 ?_
          obtain ⟨q_11, eq_11, h⟩ := pz_bd_e h
          refine r_Si X S (c_X9_in eq_11) gd_X9_94 ny_X9_in ⟨rfl, rfl⟩ ⟨Nat.le_of_ble_eq_true rfl, Nat.le_of_ble_eq_true rfl⟩ rfl rfl hl.1 (Nat.le_of_ble_eq_true rfl) dX9_next_142 (fun H locs S => ?_)
          refine lv_if_eq (tgt := 252) X.1 X.2.1 dX9_next_145 (by decide) (fun c_12 => ?_) (fun c_12 => ?_)
          · have h := pz_t c_12 h
            refine lv_iload_n X.1 X.2.1 dX9_next_252 rfl (lv_at hl 0 rfl) ?_
            refine lv_bipush (v := 40) X.1 X.2.1 dX9_next_253 (by decide) ?_
            refine lv_icmp_eq (tgt := 300) X.1 X.2.1 dX9_next_255 (by decide) (fun c_13 => ?_) (fun c_13 => ?_)
            · have h := pz_t c_13 h
              exact w_X9_next_L300 X hn h S (lv_sub hl [1, 0] rfl)
            have h := pz_f c_13 h
            refine lv_iload_n X.1 X.2.1 dX9_next_258 rfl (lv_at hl 0 rfl) ?_
            refine lv_bipush (v := 41) X.1 X.2.1 dX9_next_259 (by decide) ?_
            refine lv_icmp_eq (tgt := 300) X.1 X.2.1 dX9_next_261 (by decide) (fun c_14 => ?_) (fun c_14 => ?_)
            · have h := pz_t c_14 h
              exact w_X9_next_L300 X hn h S (lv_sub hl [1, 0] rfl)
            have h := pz_f c_14 h
            refine lv_iload_n X.1 X.2.1 dX9_next_264 rfl (lv_at hl 0 rfl) ?_
            refine lv_bipush (v := 59) X.1 X.2.1 dX9_next_265 (by decide) ?_
            refine lv_icmp_eq (tgt := 300) X.1 X.2.1 dX9_next_267 (by decide) (fun c_15 => ?_) (fun c_15 => ?_)
            · have h := pz_t c_15 h
              exact w_X9_next_L300 X hn h S (lv_sub hl [1, 0] rfl)
            have h := pz_f c_15 h
            refine lv_iload_n X.1 X.2.1 dX9_next_270 rfl (lv_at hl 0 rfl) ?_
            refine lv_bipush (v := 43) X.1 X.2.1 dX9_next_271 (by decide) ?_
            refine lv_icmp_eq (tgt := 300) X.1 X.2.1 dX9_next_273 (by decide) (fun c_16 => ?_) (fun c_16 => ?_)
            · have h := pz_t c_16 h
              exact w_X9_next_L300 X hn h S (lv_sub hl [1, 0] rfl)
            have h := pz_f c_16 h
            refine lv_iload_n X.1 X.2.1 dX9_next_276 rfl (lv_at hl 0 rfl) ?_
            refine lv_bipush (v := 45) X.1 X.2.1 dX9_next_277 (by decide) ?_
            refine lv_icmp_eq (tgt := 300) X.1 X.2.1 dX9_next_279 (by decide) (fun c_17 => ?_) (fun c_17 => ?_)
            · have h := pz_t c_17 h
              exact w_X9_next_L300 X hn h S (lv_sub hl [1, 0] rfl)
            have h := pz_f c_17 h
            refine lv_iload_n X.1 X.2.1 dX9_next_282 rfl (lv_at hl 0 rfl) ?_
            refine lv_bipush (v := 42) X.1 X.2.1 dX9_next_283 (by decide) ?_
            refine lv_icmp_eq (tgt := 300) X.1 X.2.1 dX9_next_285 (by decide) (fun c_18 => ?_) (fun c_18 => ?_)
            · have h := pz_t c_18 h
              exact w_X9_next_L300 X hn h S (lv_sub hl [1, 0] rfl)
            have h := pz_f c_18 h
            refine lv_iload_n X.1 X.2.1 dX9_next_288 rfl (lv_at hl 0 rfl) ?_
            refine lv_bipush (v := 60) X.1 X.2.1 dX9_next_289 (by decide) ?_
            refine lv_icmp_eq (tgt := 300) X.1 X.2.1 dX9_next_291 (by decide) (fun c_19 => ?_) (fun c_19 => ?_)
            · have h := pz_t c_19 h
              exact w_X9_next_L300 X hn h S (lv_sub hl [1, 0] rfl)
            have h := pz_f c_19 h
            refine lv_iload_n X.1 X.2.1 dX9_next_294 rfl (lv_at hl 0 rfl) ?_
            refine lv_bipush (v := 61) X.1 X.2.1 dX9_next_295 (by decide) ?_
            refine lv_icmp_ne (tgt := 321) X.1 X.2.1 dX9_next_297 (by decide) (fun c_20 => ?_) (fun c_20 => ?_)
            · have h := pz_f c_20 h
              cases h
              exact r_vret X S dX9_next_321
            have h := pz_t c_20 h
            exact w_X9_next_L300 X hn h S (lv_sub hl [1, 0] rfl)
          have h := pz_f c_12 h
          refine lv_aload_n X.1 X.2.1 dX9_next_148 rfl (lv_at hl 1 rfl) ?_
          refine lv_iconst (v := 2) X.1 X.2.1 dX9_next_149 (by decide) ?_
          refine pf_X9_151 X S hn (by decide) dX9_next_150 (fun J_21 H locs eJ_21 S => ?_)
          have h := pz_lt_e h eJ_21
          refine lv_aload_n X.1 X.2.1 dX9_next_153 rfl (lv_at hl 1 rfl) ?_
          refine lv_lconst (v := 0) X.1 X.2.1 dX9_next_154 (by decide) ?_
          obtain ⟨g_22, h⟩ := pz_gd_e h
          refine pf_X9_162 X S hn (by decide) (of_decide_eq_true g_22) dX9_next_155 (fun J_23 H locs eJ_23 S => ?_)
          have h := pz_lt_e h eJ_23
          refine lv_iconst (v := 0) X.1 X.2.1 dX9_next_158 (by decide) ?_
          refine lv_istore_n (lv' := [(2, .int (0 : Int32)), (1, .int q_6), (0, .ref (cx_b G + ly_loc 9 0))]) X.1 X.2.1 dX9_next_159 rfl hl (by decide) rfl (fun ls hl => ?_)
          exact w_X9_next_L160 X hn N h S (lv_sub hl [2, 0] rfl)
        have h := pz_f c_10 h
        refine lv_aload_n X.1 X.2.1 dX9_next_95 rfl (lv_at hl 1 rfl) ?_
        refine lv_iconst (v := 1) X.1 X.2.1 dX9_next_96 (by decide) ?_
        refine pf_X9_151 X S hn (by decide) dX9_next_97 (fun J_24 H locs eJ_24 S => ?_)
        have h := pz_lt_e h eJ_24
        exact w_X9_next_L100 X hn N h S (lv_sub hl [1] rfl)
      have h := pz_f c_8 h
      refine lv_aload_n X.1 X.2.1 dX9_next_65 rfl (lv_at hl 1 rfl) ?_
      refine lv_iconst (v := 0) X.1 X.2.1 dX9_next_66 (by decide) ?_
      refine pf_X9_151 X S hn (by decide) dX9_next_67 (fun J_25 H locs eJ_25 S => ?_)
      have h := pz_lt_e h eJ_25
      refine lv_aload_n X.1 X.2.1 dX9_next_70 rfl (lv_at hl 1 rfl) ?_
      refine lv_aload_n X.1 X.2.1 dX9_next_71 rfl (lv_at hl 1 rfl) ?_
      refine gf_X9_135 X S hn (by decide) dX9_next_72 ?_
      refine pf_X9_148 X S hn (by decide) dX9_next_75 (fun J_26 H locs eJ_26 S => ?_)
      have h := pz_lt_e h eJ_26
      refine lv_goto (tgt := 321) X.1 X.2.1 dX9_next_78 (by decide) ?_
      cases h
      exact r_vret X S dX9_next_321
    have h := pz_t c_4 h
    exact w_X9_next_L26 X hn ih h S (lv_sub hl [0] rfl)
def f_X9_next (N : Nat) (J : mm_T) : Option (mm_T) := f_X9_next_L0 N N J
set_option maxRecDepth 100000 in
set_option maxHeartbeats 4000000 in
theorem c_X9_next {l : Launch} {G : cx_T} {N n : Nat} {I J : mm_T} (hn : 144 ≤ n) {z : mm_T} (h : f_X9_next N J = some z) : ct_m l G n yX9_next cX9_next 3 none ({ frames := 1, cells := 0, slots := 0, locals := 25 }) [.ref (cx_b G + ly_loc 9 0)] I J (ct_qv G n I z) := by
  refine ct_en (by decide) (Nat.le_of_ble_eq_true rfl) ?_
  intro p e s m args below meth c ls X S hl
  have X : cx_ok G p s m args meth c cX9_next 3 RX9 none := X
  have hl : lv_has ls 3 [(0, .ref (cx_b G + ly_loc 9 0))] := hl
  unfold f_X9_next at h
  exact w_X9_next_L0 X hn N h S (lv_sub hl [0] rfl)
def f_X9_fail (N : Nat) (J : mm_T) : Option (mm_T) := if (J 9 0 30) = 0 then (pz_lt (mm_up J 9 0 30 (1 : Int32)) fun J_2 => pz_lt (mm_up J_2 9 0 31 (J_2 9 0 27)) fun J_3 => some J_3) else (some J)
set_option maxRecDepth 100000 in
set_option maxHeartbeats 4000000 in
theorem c_X9_fail {l : Launch} {G : cx_T} {N n : Nat} {I J : mm_T} (hn : 144 ≤ n) {z : mm_T} (h : f_X9_fail N J = some z) : ct_m l G n yX9_fail cX9_fail 1 none ({ frames := 0, cells := 0, slots := 0, locals := 0 }) [.ref (cx_b G + ly_loc 9 0)] I J (ct_qv G n I z) := by
  refine ct_en (by decide) (Nat.le_of_ble_eq_true rfl) ?_
  intro p e s m args below meth c ls X S hl
  have X : cx_ok G p s m args meth c cX9_fail 1 RX9 none := X
  have hl : lv_has ls 1 [(0, .ref (cx_b G + ly_loc 9 0))] := hl
  unfold f_X9_fail at h
  refine lv_aload_n X.1 X.2.1 dX9_fail_0 rfl (lv_at hl 0 rfl) ?_
  refine gf_X9_166 X S hn (by decide) dX9_fail_1 ?_
  refine lv_if_ne (tgt := 20) X.1 X.2.1 dX9_fail_4 (by decide) (fun c_1 => ?_) (fun c_1 => ?_)
  · have h := pz_f c_1 h
    cases h
    exact r_vret X S dX9_fail_20
  have h := pz_t c_1 h
  refine lv_aload_n X.1 X.2.1 dX9_fail_7 rfl (lv_at hl 0 rfl) ?_
  refine lv_iconst (v := 1) X.1 X.2.1 dX9_fail_8 (by decide) ?_
  refine pf_X9_166 X S hn (by decide) ⟨rfl, rfl⟩ dX9_fail_9 (fun J_2 H locs eJ_2 S => ?_)
  have h := pz_lt_e h eJ_2
  refine lv_aload_n X.1 X.2.1 dX9_fail_12 rfl (lv_at hl 0 rfl) ?_
  refine lv_aload_n X.1 X.2.1 dX9_fail_13 rfl (lv_at hl 0 rfl) ?_
  refine gf_X9_148 X S hn (by decide) dX9_fail_14 ?_
  refine pf_X9_170 X S hn (by decide) dX9_fail_17 (fun J_3 H locs eJ_3 S => ?_)
  have h := pz_lt_e h eJ_3
  cases h
  exact r_vret X S dX9_fail_20
def f_X9_isLetter (N : Nat) (J : mm_T) (p1 : Int32) (p2 : Int32) : Option (Int32) := if (J 9 0 25) ≤ ((J 9 0 27) + p1) then (if p2 = 0 then (some (1 : Int32)) else (some (0 : Int32))) else (pz_bd (f_X9_byteAt N J ((J 9 0 27) + p1)) fun q_3 => if q_3 = p2 then (some (1 : Int32)) else (some (0 : Int32)))
set_option maxRecDepth 100000 in
set_option maxHeartbeats 4000000 in
theorem c_X9_isLetter {l : Launch} {G : cx_T} {N n : Nat} {I J : mm_T} {p1 : Int32} {p2 : Int32} (hn : 144 ≤ n) {z : Int32} (h : f_X9_isLetter N J p1 p2 = some z) : ct_m l G n yX9_isLetter cX9_isLetter 3 (some .boolean) ({ frames := 1, cells := 0, slots := 0, locals := 21 }) [.ref (cx_b G + ly_loc 9 0), .int p1, .int p2] I J (ct_qi G n I J z) := by
  refine ct_en (by decide) (Nat.le_of_ble_eq_true rfl) ?_
  intro p e s m args below meth c ls X S hl
  have X : cx_ok G p s m args meth c cX9_isLetter 3 RX9 (some .boolean) := X
  have hl : lv_has ls 3 [(0, .ref (cx_b G + ly_loc 9 0)), (1, .int p1), (2, .int p2)] := hl
  unfold f_X9_isLetter at h
  refine lv_aload_n X.1 X.2.1 dX9_isLetter_0 rfl (lv_at hl 0 rfl) ?_
  refine gf_X9_148 X S hn (by decide) dX9_isLetter_1 ?_
  refine lv_iload_n X.1 X.2.1 dX9_isLetter_4 rfl (lv_at hl 1 rfl) ?_
  refine lv_iadd X.1 X.2.1 dX9_isLetter_5 ?_
  refine lv_aload_n X.1 X.2.1 dX9_isLetter_6 rfl (lv_at hl 0 rfl) ?_
  refine gf_X9_141 X S hn (by decide) dX9_isLetter_7 ?_
  refine lv_icmp_ge (tgt := 35) X.1 X.2.1 dX9_isLetter_10 (by decide) (fun c_1 => ?_) (fun c_1 => ?_)
  · have h := pz_t c_1 h
    refine lv_iload_n X.1 X.2.1 dX9_isLetter_35 rfl (lv_at hl 2 rfl) ?_
    refine lv_if_ne (tgt := 43) X.1 X.2.1 dX9_isLetter_36 (by decide) (fun c_2 => ?_) (fun c_2 => ?_)
    · have h := pz_f c_2 h
      refine lv_iconst (v := 0) X.1 X.2.1 dX9_isLetter_43 (by decide) ?_
      cases h
      exact r_zret (v := 0) X S rfl dX9_isLetter_44
    have h := pz_t c_2 h
    refine lv_iconst (v := 1) X.1 X.2.1 dX9_isLetter_39 (by decide) ?_
    refine lv_goto (tgt := 44) X.1 X.2.1 dX9_isLetter_40 (by decide) ?_
    cases h
    exact r_zret (v := 1) X S rfl dX9_isLetter_44
  have h := pz_f c_1 h
  refine lv_aload_n X.1 X.2.1 dX9_isLetter_13 rfl (lv_at hl 0 rfl) ?_
  refine lv_aload_n X.1 X.2.1 dX9_isLetter_14 rfl (lv_at hl 0 rfl) ?_
  refine gf_X9_148 X S hn (by decide) dX9_isLetter_15 ?_
  refine lv_iload_n X.1 X.2.1 dX9_isLetter_18 rfl (lv_at hl 1 rfl) ?_
  refine lv_iadd X.1 X.2.1 dX9_isLetter_19 ?_
  obtain ⟨q_3, eq_3, h⟩ := pz_bd_e h
  refine r_Vi X S (c_X9_byteAt hn eq_3) gd_X9_144 ⟨rfl, ny_X9_byteAt⟩ ⟨rfl, rfl⟩ ⟨Nat.le_of_ble_eq_true rfl, Nat.le_of_ble_eq_true rfl⟩ (r_recv X S (ly_ok_9 (by decide) hn) rfl rfl) rfl rfl hl.1 (Nat.le_of_ble_eq_true rfl) dX9_isLetter_20 (fun H locs S => ?_)
  refine lv_iload_n X.1 X.2.1 dX9_isLetter_23 rfl (lv_at hl 2 rfl) ?_
  refine lv_icmp_ne (tgt := 31) X.1 X.2.1 dX9_isLetter_24 (by decide) (fun c_4 => ?_) (fun c_4 => ?_)
  · have h := pz_f c_4 h
    refine lv_iconst (v := 0) X.1 X.2.1 dX9_isLetter_31 (by decide) ?_
    refine lv_goto (tgt := 44) X.1 X.2.1 dX9_isLetter_32 (by decide) ?_
    cases h
    exact r_zret (v := 0) X S rfl dX9_isLetter_44
  have h := pz_t c_4 h
  refine lv_iconst (v := 1) X.1 X.2.1 dX9_isLetter_27 (by decide) ?_
  refine lv_goto (tgt := 44) X.1 X.2.1 dX9_isLetter_28 (by decide) ?_
  cases h
  exact r_zret (v := 1) X S rfl dX9_isLetter_44
def f_X9_isWord (N : Nat) (J : mm_T) (p1 : Int32) (p2 : Int32) (p3 : Int32) (p4 : Int32) (p5 : Int32) (p6 : Int32) (p7 : Int32) (p8 : Int32) : Option (Int32) := if (J 9 0 30) = 0 then (if (J 9 0 26) = (1 : Int32) then (if ((J 9 0 27) + (8 : Int32)) < (J 9 0 25) then (some (0 : Int32)) else (pz_bd (f_X9_isLetter N J (0 : Int32) p1) fun q_4 => if q_4 = 0 then (some (0 : Int32)) else (pz_bd (f_X9_isLetter N J (1 : Int32) p2) fun q_6 => if q_6 = 0 then (some (0 : Int32)) else (pz_bd (f_X9_isLetter N J (2 : Int32) p3) fun q_8 => if q_8 = 0 then (some (0 : Int32)) else (pz_bd (f_X9_isLetter N J (3 : Int32) p4) fun q_10 => if q_10 = 0 then (some (0 : Int32)) else (pz_bd (f_X9_isLetter N J (4 : Int32) p5) fun q_12 => if q_12 = 0 then (some (0 : Int32)) else (pz_bd (f_X9_isLetter N J (5 : Int32) p6) fun q_14 => if q_14 = 0 then (some (0 : Int32)) else (pz_bd (f_X9_isLetter N J (6 : Int32) p7) fun q_16 => if q_16 = 0 then (some (0 : Int32)) else (pz_bd (f_X9_isLetter N J (7 : Int32) p8) fun q_18 => if q_18 = 0 then (some (0 : Int32)) else (some (1 : Int32))))))))))) else (some (0 : Int32))) else (some (0 : Int32))
set_option maxRecDepth 100000 in
set_option maxHeartbeats 4000000 in
theorem c_X9_isWord {l : Launch} {G : cx_T} {N n : Nat} {I J : mm_T} {p1 : Int32} {p2 : Int32} {p3 : Int32} {p4 : Int32} {p5 : Int32} {p6 : Int32} {p7 : Int32} {p8 : Int32} (hn : 144 ≤ n) {z : Int32} (h : f_X9_isWord N J p1 p2 p3 p4 p5 p6 p7 p8 = some z) : ct_m l G n yX9_isWord cX9_isWord 9 (some .boolean) ({ frames := 2, cells := 0, slots := 0, locals := 43 }) [.ref (cx_b G + ly_loc 9 0), .int p1, .int p2, .int p3, .int p4, .int p5, .int p6, .int p7, .int p8] I J (ct_qi G n I J z) := by
  refine ct_en (by decide) (Nat.le_of_ble_eq_true rfl) ?_
  intro p e s m args below meth c ls X S hl
  have X : cx_ok G p s m args meth c cX9_isWord 9 RX9 (some .boolean) := X
  have hl : lv_has ls 9 [(0, .ref (cx_b G + ly_loc 9 0)), (1, .int p1), (2, .int p2), (3, .int p3), (4, .int p4), (5, .int p5), (6, .int p6), (7, .int p7), (8, .int p8)] := hl
  unfold f_X9_isWord at h
  refine lv_aload_n X.1 X.2.1 dX9_isWord_0 rfl (lv_at hl 0 rfl) ?_
  refine gf_X9_166 X S hn (by decide) dX9_isWord_1 ?_
  refine lv_if_ne (tgt := 112) X.1 X.2.1 dX9_isWord_4 (by decide) (fun c_1 => ?_) (fun c_1 => ?_)
  · have h := pz_f c_1 h
    refine lv_iconst (v := 0) X.1 X.2.1 dX9_isWord_112 (by decide) ?_
    cases h
    exact r_zret (v := 0) X S rfl dX9_isWord_113
  have h := pz_t c_1 h
  refine lv_aload_n X.1 X.2.1 dX9_isWord_7 rfl (lv_at hl 0 rfl) ?_
  refine gf_X9_151 X S hn (by decide) dX9_isWord_8 ?_
  refine lv_iconst (v := 1) X.1 X.2.1 dX9_isWord_11 (by decide) ?_
  refine lv_icmp_ne (tgt := 112) X.1 X.2.1 dX9_isWord_12 (by decide) (fun c_2 => ?_) (fun c_2 => ?_)
  · have h := pz_f c_2 h
    refine lv_iconst (v := 0) X.1 X.2.1 dX9_isWord_112 (by decide) ?_
    cases h
    exact r_zret (v := 0) X S rfl dX9_isWord_113
  have h := pz_t c_2 h
  refine lv_aload_n X.1 X.2.1 dX9_isWord_15 rfl (lv_at hl 0 rfl) ?_
  refine gf_X9_141 X S hn (by decide) dX9_isWord_16 ?_
  refine lv_aload_n X.1 X.2.1 dX9_isWord_19 rfl (lv_at hl 0 rfl) ?_
  refine gf_X9_148 X S hn (by decide) dX9_isWord_20 ?_
  refine lv_bipush (v := 8) X.1 X.2.1 dX9_isWord_23 (by decide) ?_
  refine lv_iadd X.1 X.2.1 dX9_isWord_25 ?_
  refine lv_icmp_gt (tgt := 112) X.1 X.2.1 dX9_isWord_26 (by decide) (fun c_3 => ?_) (fun c_3 => ?_)
  · have h := pz_t c_3 h
    refine lv_iconst (v := 0) X.1 X.2.1 dX9_isWord_112 (by decide) ?_
    cases h
    exact r_zret (v := 0) X S rfl dX9_isWord_113
  have h := pz_f c_3 h
  refine lv_aload_n X.1 X.2.1 dX9_isWord_29 rfl (lv_at hl 0 rfl) ?_
  refine lv_iconst (v := 0) X.1 X.2.1 dX9_isWord_30 (by decide) ?_
  refine lv_iload_n X.1 X.2.1 dX9_isWord_31 rfl (lv_at hl 1 rfl) ?_
  obtain ⟨q_4, eq_4, h⟩ := pz_bd_e h
  refine r_Vi X S (c_X9_isLetter hn eq_4) gd_X9_173 ⟨rfl, ny_X9_isLetter⟩ ⟨rfl, rfl⟩ ⟨Nat.le_of_ble_eq_true rfl, Nat.le_of_ble_eq_true rfl⟩ (r_recv X S (ly_ok_9 (by decide) hn) rfl rfl) rfl rfl hl.1 (Nat.le_of_ble_eq_true rfl) dX9_isWord_32 (fun H locs S => ?_)
  refine lv_if_eq (tgt := 112) X.1 X.2.1 dX9_isWord_35 (by decide) (fun c_5 => ?_) (fun c_5 => ?_)
  · have h := pz_t c_5 h
    refine lv_iconst (v := 0) X.1 X.2.1 dX9_isWord_112 (by decide) ?_
    cases h
    exact r_zret (v := 0) X S rfl dX9_isWord_113
  have h := pz_f c_5 h
  refine lv_aload_n X.1 X.2.1 dX9_isWord_38 rfl (lv_at hl 0 rfl) ?_
  refine lv_iconst (v := 1) X.1 X.2.1 dX9_isWord_39 (by decide) ?_
  refine lv_iload_n X.1 X.2.1 dX9_isWord_40 rfl (lv_at hl 2 rfl) ?_
  obtain ⟨q_6, eq_6, h⟩ := pz_bd_e h
  refine r_Vi X S (c_X9_isLetter hn eq_6) gd_X9_173 ⟨rfl, ny_X9_isLetter⟩ ⟨rfl, rfl⟩ ⟨Nat.le_of_ble_eq_true rfl, Nat.le_of_ble_eq_true rfl⟩ (r_recv X S (ly_ok_9 (by decide) hn) rfl rfl) rfl rfl hl.1 (Nat.le_of_ble_eq_true rfl) dX9_isWord_41 (fun H locs S => ?_)
  refine lv_if_eq (tgt := 112) X.1 X.2.1 dX9_isWord_44 (by decide) (fun c_7 => ?_) (fun c_7 => ?_)
  · have h := pz_t c_7 h
    refine lv_iconst (v := 0) X.1 X.2.1 dX9_isWord_112 (by decide) ?_
    cases h
    exact r_zret (v := 0) X S rfl dX9_isWord_113
  have h := pz_f c_7 h
  refine lv_aload_n X.1 X.2.1 dX9_isWord_47 rfl (lv_at hl 0 rfl) ?_
  refine lv_iconst (v := 2) X.1 X.2.1 dX9_isWord_48 (by decide) ?_
  refine lv_iload_n X.1 X.2.1 dX9_isWord_49 rfl (lv_at hl 3 rfl) ?_
  obtain ⟨q_8, eq_8, h⟩ := pz_bd_e h
  refine r_Vi X S (c_X9_isLetter hn eq_8) gd_X9_173 ⟨rfl, ny_X9_isLetter⟩ ⟨rfl, rfl⟩ ⟨Nat.le_of_ble_eq_true rfl, Nat.le_of_ble_eq_true rfl⟩ (r_recv X S (ly_ok_9 (by decide) hn) rfl rfl) rfl rfl hl.1 (Nat.le_of_ble_eq_true rfl) dX9_isWord_50 (fun H locs S => ?_)
  refine lv_if_eq (tgt := 112) X.1 X.2.1 dX9_isWord_53 (by decide) (fun c_9 => ?_) (fun c_9 => ?_)
  · have h := pz_t c_9 h
    refine lv_iconst (v := 0) X.1 X.2.1 dX9_isWord_112 (by decide) ?_
    cases h
    exact r_zret (v := 0) X S rfl dX9_isWord_113
  have h := pz_f c_9 h
  refine lv_aload_n X.1 X.2.1 dX9_isWord_56 rfl (lv_at hl 0 rfl) ?_
  refine lv_iconst (v := 3) X.1 X.2.1 dX9_isWord_57 (by decide) ?_
  refine lv_iload X.1 X.2.1 dX9_isWord_58 (lv_at hl 4 rfl) ?_
  obtain ⟨q_10, eq_10, h⟩ := pz_bd_e h
  refine r_Vi X S (c_X9_isLetter hn eq_10) gd_X9_173 ⟨rfl, ny_X9_isLetter⟩ ⟨rfl, rfl⟩ ⟨Nat.le_of_ble_eq_true rfl, Nat.le_of_ble_eq_true rfl⟩ (r_recv X S (ly_ok_9 (by decide) hn) rfl rfl) rfl rfl hl.1 (Nat.le_of_ble_eq_true rfl) dX9_isWord_60 (fun H locs S => ?_)
  refine lv_if_eq (tgt := 112) X.1 X.2.1 dX9_isWord_63 (by decide) (fun c_11 => ?_) (fun c_11 => ?_)
  · have h := pz_t c_11 h
    refine lv_iconst (v := 0) X.1 X.2.1 dX9_isWord_112 (by decide) ?_
    cases h
    exact r_zret (v := 0) X S rfl dX9_isWord_113
  have h := pz_f c_11 h
  refine lv_aload_n X.1 X.2.1 dX9_isWord_66 rfl (lv_at hl 0 rfl) ?_
  refine lv_iconst (v := 4) X.1 X.2.1 dX9_isWord_67 (by decide) ?_
  refine lv_iload X.1 X.2.1 dX9_isWord_68 (lv_at hl 5 rfl) ?_
  obtain ⟨q_12, eq_12, h⟩ := pz_bd_e h
  refine r_Vi X S (c_X9_isLetter hn eq_12) gd_X9_173 ⟨rfl, ny_X9_isLetter⟩ ⟨rfl, rfl⟩ ⟨Nat.le_of_ble_eq_true rfl, Nat.le_of_ble_eq_true rfl⟩ (r_recv X S (ly_ok_9 (by decide) hn) rfl rfl) rfl rfl hl.1 (Nat.le_of_ble_eq_true rfl) dX9_isWord_70 (fun H locs S => ?_)
  refine lv_if_eq (tgt := 112) X.1 X.2.1 dX9_isWord_73 (by decide) (fun c_13 => ?_) (fun c_13 => ?_)
  · have h := pz_t c_13 h
    refine lv_iconst (v := 0) X.1 X.2.1 dX9_isWord_112 (by decide) ?_
    cases h
    exact r_zret (v := 0) X S rfl dX9_isWord_113
  have h := pz_f c_13 h
  refine lv_aload_n X.1 X.2.1 dX9_isWord_76 rfl (lv_at hl 0 rfl) ?_
  refine lv_iconst (v := 5) X.1 X.2.1 dX9_isWord_77 (by decide) ?_
  refine lv_iload X.1 X.2.1 dX9_isWord_78 (lv_at hl 6 rfl) ?_
  obtain ⟨q_14, eq_14, h⟩ := pz_bd_e h
  refine r_Vi X S (c_X9_isLetter hn eq_14) gd_X9_173 ⟨rfl, ny_X9_isLetter⟩ ⟨rfl, rfl⟩ ⟨Nat.le_of_ble_eq_true rfl, Nat.le_of_ble_eq_true rfl⟩ (r_recv X S (ly_ok_9 (by decide) hn) rfl rfl) rfl rfl hl.1 (Nat.le_of_ble_eq_true rfl) dX9_isWord_80 (fun H locs S => ?_)
  refine lv_if_eq (tgt := 112) X.1 X.2.1 dX9_isWord_83 (by decide) (fun c_15 => ?_) (fun c_15 => ?_)
  · have h := pz_t c_15 h
    refine lv_iconst (v := 0) X.1 X.2.1 dX9_isWord_112 (by decide) ?_
    cases h
    exact r_zret (v := 0) X S rfl dX9_isWord_113
  have h := pz_f c_15 h
  refine lv_aload_n X.1 X.2.1 dX9_isWord_86 rfl (lv_at hl 0 rfl) ?_
  refine lv_bipush (v := 6) X.1 X.2.1 dX9_isWord_87 (by decide) ?_
  refine lv_iload X.1 X.2.1 dX9_isWord_89 (lv_at hl 7 rfl) ?_
  obtain ⟨q_16, eq_16, h⟩ := pz_bd_e h
  refine r_Vi X S (c_X9_isLetter hn eq_16) gd_X9_173 ⟨rfl, ny_X9_isLetter⟩ ⟨rfl, rfl⟩ ⟨Nat.le_of_ble_eq_true rfl, Nat.le_of_ble_eq_true rfl⟩ (r_recv X S (ly_ok_9 (by decide) hn) rfl rfl) rfl rfl hl.1 (Nat.le_of_ble_eq_true rfl) dX9_isWord_91 (fun H locs S => ?_)
  refine lv_if_eq (tgt := 112) X.1 X.2.1 dX9_isWord_94 (by decide) (fun c_17 => ?_) (fun c_17 => ?_)
  · have h := pz_t c_17 h
    refine lv_iconst (v := 0) X.1 X.2.1 dX9_isWord_112 (by decide) ?_
    cases h
    exact r_zret (v := 0) X S rfl dX9_isWord_113
  have h := pz_f c_17 h
  refine lv_aload_n X.1 X.2.1 dX9_isWord_97 rfl (lv_at hl 0 rfl) ?_
  refine lv_bipush (v := 7) X.1 X.2.1 dX9_isWord_98 (by decide) ?_
  refine lv_iload X.1 X.2.1 dX9_isWord_100 (lv_at hl 8 rfl) ?_
  obtain ⟨q_18, eq_18, h⟩ := pz_bd_e h
  refine r_Vi X S (c_X9_isLetter hn eq_18) gd_X9_173 ⟨rfl, ny_X9_isLetter⟩ ⟨rfl, rfl⟩ ⟨Nat.le_of_ble_eq_true rfl, Nat.le_of_ble_eq_true rfl⟩ (r_recv X S (ly_ok_9 (by decide) hn) rfl rfl) rfl rfl hl.1 (Nat.le_of_ble_eq_true rfl) dX9_isWord_102 (fun H locs S => ?_)
  refine lv_if_eq (tgt := 112) X.1 X.2.1 dX9_isWord_105 (by decide) (fun c_19 => ?_) (fun c_19 => ?_)
  · have h := pz_t c_19 h
    refine lv_iconst (v := 0) X.1 X.2.1 dX9_isWord_112 (by decide) ?_
    cases h
    exact r_zret (v := 0) X S rfl dX9_isWord_113
  have h := pz_f c_19 h
  refine lv_iconst (v := 1) X.1 X.2.1 dX9_isWord_108 (by decide) ?_
  refine lv_goto (tgt := 113) X.1 X.2.1 dX9_isWord_109 (by decide) ?_
  cases h
  exact r_zret (v := 1) X S rfl dX9_isWord_113
def f_X9_isSign (N : Nat) (J : mm_T) (p1 : Int32) : Option (Int32) := if (J 9 0 30) = 0 then (if (J 9 0 26) = (3 : Int32) then (if (lg_cmp ((J 9 0 28).toInt64) (p1.toInt64)) = 0 then (some (1 : Int32)) else (some (0 : Int32))) else (some (0 : Int32))) else (some (0 : Int32))
set_option maxRecDepth 100000 in
set_option maxHeartbeats 4000000 in
theorem c_X9_isSign {l : Launch} {G : cx_T} {N n : Nat} {I J : mm_T} {p1 : Int32} (hn : 144 ≤ n) {z : Int32} (h : f_X9_isSign N J p1 = some z) : ct_m l G n yX9_isSign cX9_isSign 2 (some .boolean) ({ frames := 0, cells := 0, slots := 0, locals := 0 }) [.ref (cx_b G + ly_loc 9 0), .int p1] I J (ct_qi G n I J z) := by
  refine ct_en (by decide) (Nat.le_of_ble_eq_true rfl) ?_
  intro p e s m args below meth c ls X S hl
  have X : cx_ok G p s m args meth c cX9_isSign 2 RX9 (some .boolean) := X
  have hl : lv_has ls 2 [(0, .ref (cx_b G + ly_loc 9 0)), (1, .int p1)] := hl
  unfold f_X9_isSign at h
  refine lv_aload_n X.1 X.2.1 dX9_isSign_0 rfl (lv_at hl 0 rfl) ?_
  refine gf_X9_166 X S hn (by decide) dX9_isSign_1 ?_
  refine lv_if_ne (tgt := 29) X.1 X.2.1 dX9_isSign_4 (by decide) (fun c_1 => ?_) (fun c_1 => ?_)
  · have h := pz_f c_1 h
    refine lv_iconst (v := 0) X.1 X.2.1 dX9_isSign_29 (by decide) ?_
    cases h
    exact r_zret (v := 0) X S rfl dX9_isSign_30
  have h := pz_t c_1 h
  refine lv_aload_n X.1 X.2.1 dX9_isSign_7 rfl (lv_at hl 0 rfl) ?_
  refine gf_X9_151 X S hn (by decide) dX9_isSign_8 ?_
  refine lv_iconst (v := 3) X.1 X.2.1 dX9_isSign_11 (by decide) ?_
  refine lv_icmp_ne (tgt := 29) X.1 X.2.1 dX9_isSign_12 (by decide) (fun c_2 => ?_) (fun c_2 => ?_)
  · have h := pz_f c_2 h
    refine lv_iconst (v := 0) X.1 X.2.1 dX9_isSign_29 (by decide) ?_
    cases h
    exact r_zret (v := 0) X S rfl dX9_isSign_30
  have h := pz_t c_2 h
  refine lv_aload_n X.1 X.2.1 dX9_isSign_15 rfl (lv_at hl 0 rfl) ?_
  refine gf_X9_162 X S hn (by decide) dX9_isSign_16 ?_
  refine lv_iload_n X.1 X.2.1 dX9_isSign_19 rfl (lv_at hl 1 rfl) ?_
  refine lv_i2l X.1 X.2.1 dX9_isSign_20 rfl ?_
  refine W.lcmp X.1 X.2.1 dX9_isSign_21 ?_
  refine lv_if_ne (tgt := 29) X.1 X.2.1 dX9_isSign_22 (by decide) (fun c_3 => ?_) (fun c_3 => ?_)
  · have h := pz_f c_3 h
    refine lv_iconst (v := 0) X.1 X.2.1 dX9_isSign_29 (by decide) ?_
    cases h
    exact r_zret (v := 0) X S rfl dX9_isSign_30
  have h := pz_t c_3 h
  refine lv_iconst (v := 1) X.1 X.2.1 dX9_isSign_25 (by decide) ?_
  refine lv_goto (tgt := 30) X.1 X.2.1 dX9_isSign_26 (by decide) ?_
  cases h
  exact r_zret (v := 1) X S rfl dX9_isSign_30
def f_X9_opens (N : Nat) (J : mm_T) : Option (mm_T × Int32) := if (J 9 0 29) = (5 : Int32) then (pz_bd (f_X9_fail N J) fun q_4 => some (q_4, (0 : Int32))) else (pz_lt (mm_up J 9 0 29 ((J 9 0 29) + (1 : Int32))) fun J_2 => pz_bd (f_X9_next N J_2) fun q_3 => some (q_3, (1 : Int32)))
set_option maxRecDepth 100000 in
set_option maxHeartbeats 4000000 in
theorem c_X9_opens {l : Launch} {G : cx_T} {N n : Nat} {I J : mm_T} (hn : 144 ≤ n) {z : mm_T × Int32} (h : f_X9_opens N J = some z) : ct_m l G n yX9_opens cX9_opens 1 (some .boolean) ({ frames := 2, cells := 0, slots := 0, locals := 47 }) [.ref (cx_b G + ly_loc 9 0)] I J (ct_qi G n I z.1 z.2) := by
  refine ct_en (by decide) (Nat.le_of_ble_eq_true rfl) ?_
  intro p e s m args below meth c ls X S hl
  have X : cx_ok G p s m args meth c cX9_opens 1 RX9 (some .boolean) := X
  have hl : lv_has ls 1 [(0, .ref (cx_b G + ly_loc 9 0))] := hl
  unfold f_X9_opens at h
  refine lv_aload_n X.1 X.2.1 dX9_opens_0 rfl (lv_at hl 0 rfl) ?_
  refine gf_X9_177 X S hn (by decide) dX9_opens_1 ?_
  refine lv_iconst (v := 5) X.1 X.2.1 dX9_opens_4 (by decide) ?_
  refine lv_icmp_ne (tgt := 14) X.1 X.2.1 dX9_opens_5 (by decide) (fun c_1 => ?_) (fun c_1 => ?_)
  · have h := pz_f c_1 h
    refine lv_aload_n X.1 X.2.1 dX9_opens_14 rfl (lv_at hl 0 rfl) ?_
    refine lv_dup X.1 X.2.1 dX9_opens_15 rfl ?_
    refine gf_X9_177 X S hn (by decide) dX9_opens_16 ?_
    refine lv_iconst (v := 1) X.1 X.2.1 dX9_opens_19 (by decide) ?_
    refine lv_iadd X.1 X.2.1 dX9_opens_20 ?_
    refine pf_X9_177 X S hn (by decide) dX9_opens_21 (fun J_2 H locs eJ_2 S => ?_)
    have h := pz_lt_e h eJ_2
    refine lv_aload_n X.1 X.2.1 dX9_opens_24 rfl (lv_at hl 0 rfl) ?_
    obtain ⟨q_3, eq_3, h⟩ := pz_bd_e h
    refine r_Vv X S (c_X9_next hn eq_3) gd_X9_183 ⟨rfl, ny_X9_next⟩ ⟨rfl, rfl⟩ ⟨Nat.le_of_ble_eq_true rfl, Nat.le_of_ble_eq_true rfl⟩ (r_recv X S (ly_ok_9 (by decide) hn) rfl rfl) rfl rfl hl.1 (Nat.le_of_ble_eq_true rfl) dX9_opens_25 (fun H locs S => ?_)
    refine lv_iconst (v := 1) X.1 X.2.1 dX9_opens_28 (by decide) ?_
    cases h
    exact r_zret (v := 1) X S rfl dX9_opens_29
  have h := pz_t c_1 h
  refine lv_aload_n X.1 X.2.1 dX9_opens_8 rfl (lv_at hl 0 rfl) ?_
  obtain ⟨q_4, eq_4, h⟩ := pz_bd_e h
  refine r_Vv X S (c_X9_fail hn eq_4) gd_X9_180 ⟨rfl, ny_X9_fail⟩ ⟨rfl, rfl⟩ ⟨Nat.le_of_ble_eq_true rfl, Nat.le_of_ble_eq_true rfl⟩ (r_recv X S (ly_ok_9 (by decide) hn) rfl rfl) rfl rfl hl.1 (Nat.le_of_ble_eq_true rfl) dX9_opens_9 (fun H locs S => ?_)
  refine lv_iconst (v := 0) X.1 X.2.1 dX9_opens_12 (by decide) ?_
  cases h
  exact r_zret (v := 0) X S rfl dX9_opens_13
def f_X9_name (N : Nat) (J : mm_T) : Option (mm_T × Int32) := pz_bd (f_X9_isWord N J (109 : Int32) (105 : Int32) (110 : Int32) (117 : Int32) (116 : Int32) (101 : Int32) (0 : Int32) (0 : Int32)) fun q_1 => if q_1 = 0 then (pz_bd (f_X9_isWord N J (119 : Int32) (97 : Int32) (105 : Int32) (116 : Int32) (101 : Int32) (100 : Int32) (0 : Int32) (0 : Int32)) fun q_3 => if q_3 = 0 then (pz_bd (f_X9_isWord N J (115 : Int32) (117 : Int32) (110 : Int32) (103 : Int32) (0 : Int32) (0 : Int32) (0 : Int32) (0 : Int32)) fun q_5 => if q_5 = 0 then (pz_bd (f_X9_isWord N J (115 : Int32) (111 : Int32) (114 : Int32) (116 : Int32) (0 : Int32) (0 : Int32) (0 : Int32) (0 : Int32)) fun q_7 => if q_7 = 0 then (pz_bd (f_X9_isWord N J (98 : Int32) (97 : Int32) (114 : Int32) (0 : Int32) (0 : Int32) (0 : Int32) (0 : Int32) (0 : Int32)) fun q_9 => if q_9 = 0 then (pz_bd (f_X9_isWord N J (109 : Int32) (111 : Int32) (111 : Int32) (100 : Int32) (0 : Int32) (0 : Int32) (0 : Int32) (0 : Int32)) fun q_11 => if q_11 = 0 then (pz_bd (f_X9_fail N J) fun q_13 => some (q_13, (0 : Int32))) else (some (J, (J 9 0 22)))) else (some (J, (J 9 0 21)))) else (some (J, (J 9 0 20)))) else (some (J, (J 9 0 19)))) else (some (J, (J 9 0 18)))) else (some (J, (J 9 0 17)))
set_option maxRecDepth 100000 in
set_option maxHeartbeats 4000000 in
theorem c_X9_name {l : Launch} {G : cx_T} {N n : Nat} {I J : mm_T} (hn : 144 ≤ n) {z : mm_T × Int32} (h : f_X9_name N J = some z) : ct_m l G n yX9_name cX9_name 1 (some .int) ({ frames := 3, cells := 0, slots := 0, locals := 71 }) [.ref (cx_b G + ly_loc 9 0)] I J (ct_qi G n I z.1 z.2) := by
  refine ct_en (by decide) (Nat.le_of_ble_eq_true rfl) ?_
  intro p e s m args below meth c ls X S hl
  have X : cx_ok G p s m args meth c cX9_name 1 RX9 (some .int) := X
  have hl : lv_has ls 1 [(0, .ref (cx_b G + ly_loc 9 0))] := hl
  unfold f_X9_name at h
  refine lv_aload_n X.1 X.2.1 dX9_name_0 rfl (lv_at hl 0 rfl) ?_
  refine lv_bipush (v := 109) X.1 X.2.1 dX9_name_1 (by decide) ?_
  refine lv_bipush (v := 105) X.1 X.2.1 dX9_name_3 (by decide) ?_
  refine lv_bipush (v := 110) X.1 X.2.1 dX9_name_5 (by decide) ?_
  refine lv_bipush (v := 117) X.1 X.2.1 dX9_name_7 (by decide) ?_
  refine lv_bipush (v := 116) X.1 X.2.1 dX9_name_9 (by decide) ?_
  refine lv_bipush (v := 101) X.1 X.2.1 dX9_name_11 (by decide) ?_
  refine lv_iconst (v := 0) X.1 X.2.1 dX9_name_13 (by decide) ?_
  refine lv_iconst (v := 0) X.1 X.2.1 dX9_name_14 (by decide) ?_
  obtain ⟨q_1, eq_1, h⟩ := pz_bd_e h
  refine r_Vi X S (c_X9_isWord hn eq_1) gd_X9_186 ⟨rfl, ny_X9_isWord⟩ ⟨rfl, rfl⟩ ⟨Nat.le_of_ble_eq_true rfl, Nat.le_of_ble_eq_true rfl⟩ (r_recv X S (ly_ok_9 (by decide) hn) rfl rfl) rfl rfl hl.1 (Nat.le_of_ble_eq_true rfl) dX9_name_15 (fun H locs S => ?_)
  refine lv_if_eq (tgt := 26) X.1 X.2.1 dX9_name_18 (by decide) (fun c_2 => ?_) (fun c_2 => ?_)
  · have h := pz_t c_2 h
    refine lv_aload_n X.1 X.2.1 dX9_name_26 rfl (lv_at hl 0 rfl) ?_
    refine lv_bipush (v := 119) X.1 X.2.1 dX9_name_27 (by decide) ?_
    refine lv_bipush (v := 97) X.1 X.2.1 dX9_name_29 (by decide) ?_
    refine lv_bipush (v := 105) X.1 X.2.1 dX9_name_31 (by decide) ?_
    refine lv_bipush (v := 116) X.1 X.2.1 dX9_name_33 (by decide) ?_
    refine lv_bipush (v := 101) X.1 X.2.1 dX9_name_35 (by decide) ?_
    refine lv_bipush (v := 100) X.1 X.2.1 dX9_name_37 (by decide) ?_
    refine lv_iconst (v := 0) X.1 X.2.1 dX9_name_39 (by decide) ?_
    refine lv_iconst (v := 0) X.1 X.2.1 dX9_name_40 (by decide) ?_
    obtain ⟨q_3, eq_3, h⟩ := pz_bd_e h
    refine r_Vi X S (c_X9_isWord hn eq_3) gd_X9_186 ⟨rfl, ny_X9_isWord⟩ ⟨rfl, rfl⟩ ⟨Nat.le_of_ble_eq_true rfl, Nat.le_of_ble_eq_true rfl⟩ (r_recv X S (ly_ok_9 (by decide) hn) rfl rfl) rfl rfl hl.1 (Nat.le_of_ble_eq_true rfl) dX9_name_41 (fun H locs S => ?_)
    refine lv_if_eq (tgt := 52) X.1 X.2.1 dX9_name_44 (by decide) (fun c_4 => ?_) (fun c_4 => ?_)
    · have h := pz_t c_4 h
      refine lv_aload_n X.1 X.2.1 dX9_name_52 rfl (lv_at hl 0 rfl) ?_
      refine lv_bipush (v := 115) X.1 X.2.1 dX9_name_53 (by decide) ?_
      refine lv_bipush (v := 117) X.1 X.2.1 dX9_name_55 (by decide) ?_
      refine lv_bipush (v := 110) X.1 X.2.1 dX9_name_57 (by decide) ?_
      refine lv_bipush (v := 103) X.1 X.2.1 dX9_name_59 (by decide) ?_
      refine lv_iconst (v := 0) X.1 X.2.1 dX9_name_61 (by decide) ?_
      refine lv_iconst (v := 0) X.1 X.2.1 dX9_name_62 (by decide) ?_
      refine lv_iconst (v := 0) X.1 X.2.1 dX9_name_63 (by decide) ?_
      refine lv_iconst (v := 0) X.1 X.2.1 dX9_name_64 (by decide) ?_
      obtain ⟨q_5, eq_5, h⟩ := pz_bd_e h
      refine r_Vi X S (c_X9_isWord hn eq_5) gd_X9_186 ⟨rfl, ny_X9_isWord⟩ ⟨rfl, rfl⟩ ⟨Nat.le_of_ble_eq_true rfl, Nat.le_of_ble_eq_true rfl⟩ (r_recv X S (ly_ok_9 (by decide) hn) rfl rfl) rfl rfl hl.1 (Nat.le_of_ble_eq_true rfl) dX9_name_65 (fun H locs S => ?_)
      refine lv_if_eq (tgt := 76) X.1 X.2.1 dX9_name_68 (by decide) (fun c_6 => ?_) (fun c_6 => ?_)
      · have h := pz_t c_6 h
        refine lv_aload_n X.1 X.2.1 dX9_name_76 rfl (lv_at hl 0 rfl) ?_
        refine lv_bipush (v := 115) X.1 X.2.1 dX9_name_77 (by decide) ?_
        refine lv_bipush (v := 111) X.1 X.2.1 dX9_name_79 (by decide) ?_
        refine lv_bipush (v := 114) X.1 X.2.1 dX9_name_81 (by decide) ?_
        refine lv_bipush (v := 116) X.1 X.2.1 dX9_name_83 (by decide) ?_
        refine lv_iconst (v := 0) X.1 X.2.1 dX9_name_85 (by decide) ?_
        refine lv_iconst (v := 0) X.1 X.2.1 dX9_name_86 (by decide) ?_
        refine lv_iconst (v := 0) X.1 X.2.1 dX9_name_87 (by decide) ?_
        refine lv_iconst (v := 0) X.1 X.2.1 dX9_name_88 (by decide) ?_
        obtain ⟨q_7, eq_7, h⟩ := pz_bd_e h
        refine r_Vi X S (c_X9_isWord hn eq_7) gd_X9_186 ⟨rfl, ny_X9_isWord⟩ ⟨rfl, rfl⟩ ⟨Nat.le_of_ble_eq_true rfl, Nat.le_of_ble_eq_true rfl⟩ (r_recv X S (ly_ok_9 (by decide) hn) rfl rfl) rfl rfl hl.1 (Nat.le_of_ble_eq_true rfl) dX9_name_89 (fun H locs S => ?_)
        refine lv_if_eq (tgt := 100) X.1 X.2.1 dX9_name_92 (by decide) (fun c_8 => ?_) (fun c_8 => ?_)
        · have h := pz_t c_8 h
          refine lv_aload_n X.1 X.2.1 dX9_name_100 rfl (lv_at hl 0 rfl) ?_
          refine lv_bipush (v := 98) X.1 X.2.1 dX9_name_101 (by decide) ?_
          refine lv_bipush (v := 97) X.1 X.2.1 dX9_name_103 (by decide) ?_
          refine lv_bipush (v := 114) X.1 X.2.1 dX9_name_105 (by decide) ?_
          refine lv_iconst (v := 0) X.1 X.2.1 dX9_name_107 (by decide) ?_
          refine lv_iconst (v := 0) X.1 X.2.1 dX9_name_108 (by decide) ?_
          refine lv_iconst (v := 0) X.1 X.2.1 dX9_name_109 (by decide) ?_
          refine lv_iconst (v := 0) X.1 X.2.1 dX9_name_110 (by decide) ?_
          refine lv_iconst (v := 0) X.1 X.2.1 dX9_name_111 (by decide) ?_
          obtain ⟨q_9, eq_9, h⟩ := pz_bd_e h
          refine r_Vi X S (c_X9_isWord hn eq_9) gd_X9_186 ⟨rfl, ny_X9_isWord⟩ ⟨rfl, rfl⟩ ⟨Nat.le_of_ble_eq_true rfl, Nat.le_of_ble_eq_true rfl⟩ (r_recv X S (ly_ok_9 (by decide) hn) rfl rfl) rfl rfl hl.1 (Nat.le_of_ble_eq_true rfl) dX9_name_112 (fun H locs S => ?_)
          refine lv_if_eq (tgt := 123) X.1 X.2.1 dX9_name_115 (by decide) (fun c_10 => ?_) (fun c_10 => ?_)
          · have h := pz_t c_10 h
            refine lv_aload_n X.1 X.2.1 dX9_name_123 rfl (lv_at hl 0 rfl) ?_
            refine lv_bipush (v := 109) X.1 X.2.1 dX9_name_124 (by decide) ?_
            refine lv_bipush (v := 111) X.1 X.2.1 dX9_name_126 (by decide) ?_
            refine lv_bipush (v := 111) X.1 X.2.1 dX9_name_128 (by decide) ?_
            refine lv_bipush (v := 100) X.1 X.2.1 dX9_name_130 (by decide) ?_
            refine lv_iconst (v := 0) X.1 X.2.1 dX9_name_132 (by decide) ?_
            refine lv_iconst (v := 0) X.1 X.2.1 dX9_name_133 (by decide) ?_
            refine lv_iconst (v := 0) X.1 X.2.1 dX9_name_134 (by decide) ?_
            refine lv_iconst (v := 0) X.1 X.2.1 dX9_name_135 (by decide) ?_
            obtain ⟨q_11, eq_11, h⟩ := pz_bd_e h
            refine r_Vi X S (c_X9_isWord hn eq_11) gd_X9_186 ⟨rfl, ny_X9_isWord⟩ ⟨rfl, rfl⟩ ⟨Nat.le_of_ble_eq_true rfl, Nat.le_of_ble_eq_true rfl⟩ (r_recv X S (ly_ok_9 (by decide) hn) rfl rfl) rfl rfl hl.1 (Nat.le_of_ble_eq_true rfl) dX9_name_136 (fun H locs S => ?_)
            refine lv_if_eq (tgt := 147) X.1 X.2.1 dX9_name_139 (by decide) (fun c_12 => ?_) (fun c_12 => ?_)
            · have h := pz_t c_12 h
              refine lv_aload_n X.1 X.2.1 dX9_name_147 rfl (lv_at hl 0 rfl) ?_
              obtain ⟨q_13, eq_13, h⟩ := pz_bd_e h
              refine r_Vv X S (c_X9_fail hn eq_13) gd_X9_180 ⟨rfl, ny_X9_fail⟩ ⟨rfl, rfl⟩ ⟨Nat.le_of_ble_eq_true rfl, Nat.le_of_ble_eq_true rfl⟩ (r_recv X S (ly_ok_9 (by decide) hn) rfl rfl) rfl rfl hl.1 (Nat.le_of_ble_eq_true rfl) dX9_name_148 (fun H locs S => ?_)
              refine lv_iconst (v := 0) X.1 X.2.1 dX9_name_151 (by decide) ?_
              cases h
              exact r_iret X S dX9_name_152
            have h := pz_f c_12 h
            refine lv_aload_n X.1 X.2.1 dX9_name_142 rfl (lv_at hl 0 rfl) ?_
            refine gf_X9_205 X S hn (by decide) dX9_name_143 ?_
            cases h
            exact r_iret X S dX9_name_146
          have h := pz_f c_10 h
          refine lv_aload_n X.1 X.2.1 dX9_name_118 rfl (lv_at hl 0 rfl) ?_
          refine gf_X9_202 X S hn (by decide) dX9_name_119 ?_
          cases h
          exact r_iret X S dX9_name_122
        have h := pz_f c_8 h
        refine lv_aload_n X.1 X.2.1 dX9_name_95 rfl (lv_at hl 0 rfl) ?_
        refine gf_X9_199 X S hn (by decide) dX9_name_96 ?_
        cases h
        exact r_iret X S dX9_name_99
      have h := pz_f c_6 h
      refine lv_aload_n X.1 X.2.1 dX9_name_71 rfl (lv_at hl 0 rfl) ?_
      refine gf_X9_196 X S hn (by decide) dX9_name_72 ?_
      cases h
      exact r_iret X S dX9_name_75
    have h := pz_f c_4 h
    refine lv_aload_n X.1 X.2.1 dX9_name_47 rfl (lv_at hl 0 rfl) ?_
    refine gf_X9_193 X S hn (by decide) dX9_name_48 ?_
    cases h
    exact r_iret X S dX9_name_51
  have h := pz_f c_2 h
  refine lv_aload_n X.1 X.2.1 dX9_name_21 rfl (lv_at hl 0 rfl) ?_
  refine gf_X9_190 X S hn (by decide) dX9_name_22 ?_
  cases h
  exact r_iret X S dX9_name_25
def f_X9_atom_L71 (N : Nat) (rc : Nat → mm_T → Option (mm_T × Int32)) (J : mm_T) (a1 : Int32) : Option (mm_T × Int32) := pz_lt (mm_up J 9 0 29 ((J 9 0 29) - (1 : Int32))) fun J_29 => if (J_29 9 0 30) = 0 then (pz_bd (f_X9_next N J_29) fun q_31 => some (q_31, a1)) else (some (J_29, a1))
set_option maxRecDepth 100000 in
set_option maxHeartbeats 4000000 in
theorem w_X9_atom_L71 {l : Launch} {G : cx_T} {p : Program} {e : Env} {s : State} {m : MethodId} {args : Array Value} {below : List Frame} {meth : Method} {c : Code} {N n : Nat} {d : Nat} {rc : Nat → mm_T → Option (mm_T × Int32)} {I : mm_T} (X : cx_ok G p s m args meth c cX9_atom 2 RX9 (some .int)) (hn : 144 ≤ n) (hrc_X9_atom : ∀ {I J : mm_T} {z : mm_T × Int32}, 144 ≤ n → rc 0 J = some z → ct_m l G n yX9_atom cX9_atom 2 (some .int) ({ frames := 4 + d, cells := 0, slots := 0, locals := 91 + 40 * d }) [.ref (cx_b G + ly_loc 9 0)] I J (ct_qi G n I z.1 z.2)) (hrc_X9_term : ∀ {I J : mm_T} {z : mm_T × Int32}, 144 ≤ n → rc 1 J = some z → ct_m l G n yX9_term cX9_term 2 (some .int) ({ frames := 4 + d, cells := 0, slots := 0, locals := 91 + 40 * d }) [.ref (cx_b G + ly_loc 9 0)] I J (ct_qi G n I z.1 z.2)) (hrc_X9_added : ∀ {I J : mm_T} {z : mm_T × Int32}, 144 ≤ n → rc 2 J = some z → ct_m l G n yX9_added cX9_added 4 (some .int) ({ frames := 4 + d, cells := 0, slots := 0, locals := 91 + 40 * d }) [.ref (cx_b G + ly_loc 9 0)] I J (ct_qi G n I z.1 z.2)) (hrc_X9_not : ∀ {I J : mm_T} {z : mm_T × Int32}, 144 ≤ n → rc 3 J = some z → ct_m l G n yX9_not cX9_not 4 (some .int) ({ frames := 4 + d, cells := 0, slots := 0, locals := 91 + 40 * d }) [.ref (cx_b G + ly_loc 9 0)] I J (ct_qi G n I z.1 z.2)) (hrc_X9_both : ∀ {I J : mm_T} {z : mm_T × Int32}, 144 ≤ n → rc 4 J = some z → ct_m l G n yX9_both cX9_both 3 (some .int) ({ frames := 4 + d, cells := 0, slots := 0, locals := 91 + 40 * d }) [.ref (cx_b G + ly_loc 9 0)] I J (ct_qi G n I z.1 z.2)) (hrc_X9_either : ∀ {I J : mm_T} {z : mm_T × Int32}, 144 ≤ n → rc 5 J = some z → ct_m l G n yX9_either cX9_either 3 (some .int) ({ frames := 4 + d, cells := 0, slots := 0, locals := 91 + 40 * d }) [.ref (cx_b G + ly_loc 9 0)] I J (ct_qi G n I z.1 z.2)) {z : mm_T × Int32} {J : mm_T} {a1 : Int32} {H : Heap} {locs : List Loc} {ls : Array Slot} (h : f_X9_atom_L71 N rc J a1 = some z) (S : st_ok G n I J s H locs) (hl : lv_has ls 2 [(0, .ref (cx_b G + ly_loc 9 0)), (1, .int a1)]) : W p l e ({ frames := 4 + (d + 1), cells := 0, slots := 0, locals := 91 + 40 * (d + 1) }) s m args below meth c H locs 0 0 (MQ below (ct_qi G n I z.1 z.2) args s 0 0 (cx_A G)) (F0 m 71 ls []) := by
  unfold f_X9_atom_L71 at h
  refine lv_aload_n X.1 X.2.1 dX9_atom_71 rfl (lv_at hl 0 rfl) ?_
  refine lv_dup X.1 X.2.1 dX9_atom_72 rfl ?_
  refine gf_X9_177 X S hn (by decide) dX9_atom_73 ?_
  refine lv_iconst (v := 1) X.1 X.2.1 dX9_atom_76 (by decide) ?_
  refine lv_isub X.1 X.2.1 dX9_atom_77 ?_
  refine pf_X9_177 X S hn (by decide) dX9_atom_78 (fun J_29 H locs eJ_29 S => ?_)
  have h := pz_lt_e h eJ_29
  refine lv_aload_n X.1 X.2.1 dX9_atom_81 rfl (lv_at hl 0 rfl) ?_
  refine gf_X9_166 X S hn (by decide) dX9_atom_82 ?_
  refine lv_if_ne (tgt := 161) X.1 X.2.1 dX9_atom_85 (by decide) (fun c_30 => ?_) (fun c_30 => ?_)
  · have h := pz_f c_30 h
    refine lv_iload_n X.1 X.2.1 dX9_atom_161 rfl (lv_at hl 1 rfl) ?_
    cases h
    exact r_iret X S dX9_atom_162
  have h := pz_t c_30 h
  refine lv_aload_n X.1 X.2.1 dX9_atom_88 rfl (lv_at hl 0 rfl) ?_
  obtain ⟨q_31, eq_31, h⟩ := pz_bd_e h
  refine r_Vv X S (c_X9_next hn eq_31) gd_X9_183 ⟨rfl, ny_X9_next⟩ ⟨rfl, rfl⟩ ⟨by dsimp only; omega, by dsimp only; omega⟩ (r_recv X S (ly_ok_9 (by decide) hn) rfl rfl) rfl rfl hl.1 (Nat.le_of_ble_eq_true rfl) dX9_atom_89 (fun H locs S => ?_)
  refine lv_goto (tgt := 161) X.1 X.2.1 dX9_atom_92 (by decide) ?_
  refine lv_iload_n X.1 X.2.1 dX9_atom_161 rfl (lv_at hl 1 rfl) ?_
  cases h
  exact r_iret X S dX9_atom_162
def f_X9_atom_L123 (N : Nat) (rc : Nat → mm_T → Option (mm_T × Int32)) (J : mm_T) (a1 : Int32) : Option (mm_T × Int32) := if (J 9 0 30) = 0 then (if (J 9 0 26) = (1 : Int32) then (pz_bd (f_X9_name N J) fun q_25 => pz_lt q_25.2 fun x_26 => if (q_25.1 9 0 30) = 0 then (pz_bd (f_X9_next N q_25.1) fun q_28 => some (q_28, x_26)) else (some (q_25.1, x_26))) else (pz_bd (f_X9_fail N J) fun q_24 => some (q_24, a1))) else (pz_bd (f_X9_fail N J) fun q_22 => some (q_22, a1))
set_option maxRecDepth 100000 in
set_option maxHeartbeats 4000000 in
theorem w_X9_atom_L123 {l : Launch} {G : cx_T} {p : Program} {e : Env} {s : State} {m : MethodId} {args : Array Value} {below : List Frame} {meth : Method} {c : Code} {N n : Nat} {d : Nat} {rc : Nat → mm_T → Option (mm_T × Int32)} {I : mm_T} (X : cx_ok G p s m args meth c cX9_atom 2 RX9 (some .int)) (hn : 144 ≤ n) (hrc_X9_atom : ∀ {I J : mm_T} {z : mm_T × Int32}, 144 ≤ n → rc 0 J = some z → ct_m l G n yX9_atom cX9_atom 2 (some .int) ({ frames := 4 + d, cells := 0, slots := 0, locals := 91 + 40 * d }) [.ref (cx_b G + ly_loc 9 0)] I J (ct_qi G n I z.1 z.2)) (hrc_X9_term : ∀ {I J : mm_T} {z : mm_T × Int32}, 144 ≤ n → rc 1 J = some z → ct_m l G n yX9_term cX9_term 2 (some .int) ({ frames := 4 + d, cells := 0, slots := 0, locals := 91 + 40 * d }) [.ref (cx_b G + ly_loc 9 0)] I J (ct_qi G n I z.1 z.2)) (hrc_X9_added : ∀ {I J : mm_T} {z : mm_T × Int32}, 144 ≤ n → rc 2 J = some z → ct_m l G n yX9_added cX9_added 4 (some .int) ({ frames := 4 + d, cells := 0, slots := 0, locals := 91 + 40 * d }) [.ref (cx_b G + ly_loc 9 0)] I J (ct_qi G n I z.1 z.2)) (hrc_X9_not : ∀ {I J : mm_T} {z : mm_T × Int32}, 144 ≤ n → rc 3 J = some z → ct_m l G n yX9_not cX9_not 4 (some .int) ({ frames := 4 + d, cells := 0, slots := 0, locals := 91 + 40 * d }) [.ref (cx_b G + ly_loc 9 0)] I J (ct_qi G n I z.1 z.2)) (hrc_X9_both : ∀ {I J : mm_T} {z : mm_T × Int32}, 144 ≤ n → rc 4 J = some z → ct_m l G n yX9_both cX9_both 3 (some .int) ({ frames := 4 + d, cells := 0, slots := 0, locals := 91 + 40 * d }) [.ref (cx_b G + ly_loc 9 0)] I J (ct_qi G n I z.1 z.2)) (hrc_X9_either : ∀ {I J : mm_T} {z : mm_T × Int32}, 144 ≤ n → rc 5 J = some z → ct_m l G n yX9_either cX9_either 3 (some .int) ({ frames := 4 + d, cells := 0, slots := 0, locals := 91 + 40 * d }) [.ref (cx_b G + ly_loc 9 0)] I J (ct_qi G n I z.1 z.2)) {z : mm_T × Int32} {J : mm_T} {a1 : Int32} {H : Heap} {locs : List Loc} {ls : Array Slot} (h : f_X9_atom_L123 N rc J a1 = some z) (S : st_ok G n I J s H locs) (hl : lv_has ls 2 [(0, .ref (cx_b G + ly_loc 9 0)), (1, .int a1)]) : W p l e ({ frames := 4 + (d + 1), cells := 0, slots := 0, locals := 91 + 40 * (d + 1) }) s m args below meth c H locs 0 0 (MQ below (ct_qi G n I z.1 z.2) args s 0 0 (cx_A G)) (F0 m 123 ls []) := by
  unfold f_X9_atom_L123 at h
  refine lv_aload_n X.1 X.2.1 dX9_atom_123 rfl (lv_at hl 0 rfl) ?_
  refine gf_X9_166 X S hn (by decide) dX9_atom_124 ?_
  refine lv_if_ne (tgt := 157) X.1 X.2.1 dX9_atom_127 (by decide) (fun c_21 => ?_) (fun c_21 => ?_)
  · have h := pz_f c_21 h
    refine lv_aload_n X.1 X.2.1 dX9_atom_157 rfl (lv_at hl 0 rfl) ?_
    obtain ⟨q_22, eq_22, h⟩ := pz_bd_e h
    refine r_Vv X S (c_X9_fail hn eq_22) gd_X9_180 ⟨rfl, ny_X9_fail⟩ ⟨rfl, rfl⟩ ⟨by dsimp only; omega, by dsimp only; omega⟩ (r_recv X S (ly_ok_9 (by decide) hn) rfl rfl) rfl rfl hl.1 (Nat.le_of_ble_eq_true rfl) dX9_atom_158 (fun H locs S => ?_)
    refine lv_iload_n X.1 X.2.1 dX9_atom_161 rfl (lv_at hl 1 rfl) ?_
    cases h
    exact r_iret X S dX9_atom_162
  have h := pz_t c_21 h
  refine lv_aload_n X.1 X.2.1 dX9_atom_130 rfl (lv_at hl 0 rfl) ?_
  refine gf_X9_151 X S hn (by decide) dX9_atom_131 ?_
  refine lv_iconst (v := 1) X.1 X.2.1 dX9_atom_134 (by decide) ?_
  refine lv_icmp_ne (tgt := 157) X.1 X.2.1 dX9_atom_135 (by decide) (fun c_23 => ?_) (fun c_23 => ?_)
  · have h := pz_f c_23 h
    refine lv_aload_n X.1 X.2.1 dX9_atom_157 rfl (lv_at hl 0 rfl) ?_
    obtain ⟨q_24, eq_24, h⟩ := pz_bd_e h
    refine r_Vv X S (c_X9_fail hn eq_24) gd_X9_180 ⟨rfl, ny_X9_fail⟩ ⟨rfl, rfl⟩ ⟨by dsimp only; omega, by dsimp only; omega⟩ (r_recv X S (ly_ok_9 (by decide) hn) rfl rfl) rfl rfl hl.1 (Nat.le_of_ble_eq_true rfl) dX9_atom_158 (fun H locs S => ?_)
    refine lv_iload_n X.1 X.2.1 dX9_atom_161 rfl (lv_at hl 1 rfl) ?_
    cases h
    exact r_iret X S dX9_atom_162
  have h := pz_t c_23 h
  refine lv_aload_n X.1 X.2.1 dX9_atom_138 rfl (lv_at hl 0 rfl) ?_
  obtain ⟨q_25, eq_25, h⟩ := pz_bd_e h
  refine r_Vi X S (c_X9_name hn eq_25) gd_X9_222 ⟨rfl, ny_X9_name⟩ ⟨rfl, rfl⟩ ⟨by dsimp only; omega, by dsimp only; omega⟩ (r_recv X S (ly_ok_9 (by decide) hn) rfl rfl) rfl rfl hl.1 (Nat.le_of_ble_eq_true rfl) dX9_atom_139 (fun H locs S => ?_)
  refine lv_topi (fun x_26 ex_26 => ?_)
  have h := pz_lt_e h ex_26
  refine lv_istore_n (lv' := [(1, .int x_26), (0, .ref (cx_b G + ly_loc 9 0))]) X.1 X.2.1 dX9_atom_142 rfl hl (by decide) rfl (fun ls hl => ?_)
  refine lv_aload_n X.1 X.2.1 dX9_atom_143 rfl (lv_at hl 1 rfl) ?_
  refine gf_X9_166 X S hn (by decide) dX9_atom_144 ?_
  refine lv_if_ne (tgt := 161) X.1 X.2.1 dX9_atom_147 (by decide) (fun c_27 => ?_) (fun c_27 => ?_)
  · have h := pz_f c_27 h
    refine lv_iload_n X.1 X.2.1 dX9_atom_161 rfl (lv_at hl 0 rfl) ?_
    cases h
    exact r_iret X S dX9_atom_162
  have h := pz_t c_27 h
  refine lv_aload_n X.1 X.2.1 dX9_atom_150 rfl (lv_at hl 1 rfl) ?_
  obtain ⟨q_28, eq_28, h⟩ := pz_bd_e h
  refine r_Vv X S (c_X9_next hn eq_28) gd_X9_183 ⟨rfl, ny_X9_next⟩ ⟨rfl, rfl⟩ ⟨by dsimp only; omega, by dsimp only; omega⟩ (r_recv X S (ly_ok_9 (by decide) hn) rfl rfl) rfl rfl hl.1 (Nat.le_of_ble_eq_true rfl) dX9_atom_151 (fun H locs S => ?_)
  refine lv_goto (tgt := 161) X.1 X.2.1 dX9_atom_154 (by decide) ?_
  refine lv_iload_n X.1 X.2.1 dX9_atom_161 rfl (lv_at hl 0 rfl) ?_
  cases h
  exact r_iret X S dX9_atom_162
def f_X9_atom (N : Nat) (rc : Nat → mm_T → Option (mm_T × Int32)) (J : mm_T) : Option (mm_T × Int32) := pz_bd (f_X9_isSign N J (45 : Int32)) fun q_1 => if q_1 = 0 then (pz_bd (f_X9_isSign N J (40 : Int32)) fun q_3 => if q_3 = 0 then (if (J 9 0 30) = 0 then (if (J 9 0 26) = (2 : Int32) then (pz_lt (((J 9 0 28).toInt64).toInt32) fun x_7 => pz_bd (f_X9_next N J) fun q_8 => some (q_8, x_7)) else (f_X9_atom_L123 N rc J (0 : Int32))) else (f_X9_atom_L123 N rc J (0 : Int32))) else (pz_bd (f_X9_opens N J) fun q_9 => if q_9.2 = 0 then (some (q_9.1, (0 : Int32))) else (pz_bd (rc 5 q_9.1) fun q_11 => pz_lt q_11.2 fun x_12 => pz_bd (f_X9_isSign N q_11.1 (41 : Int32)) fun q_13 => if q_13 = 0 then (pz_bd (f_X9_fail N q_11.1) fun q_15 => f_X9_atom_L71 N rc q_15 x_12) else (f_X9_atom_L71 N rc q_11.1 x_12)))) else (pz_bd (f_X9_opens N J) fun q_16 => if q_16.2 = 0 then (some (q_16.1, (0 : Int32))) else (pz_bd (rc 0 q_16.1) fun q_18 => pz_lt (-q_18.2) fun x_19 => pz_lt (mm_up q_18.1 9 0 29 ((q_18.1 9 0 29) - (1 : Int32))) fun J_20 => some (J_20, x_19)))
set_option maxRecDepth 100000 in
set_option maxHeartbeats 4000000 in
theorem c_X9_atom {l : Launch} {G : cx_T} {N n : Nat} {d : Nat} {rc : Nat → mm_T → Option (mm_T × Int32)} {I J : mm_T} (hrc_X9_atom : ∀ {I J : mm_T} {z : mm_T × Int32}, 144 ≤ n → rc 0 J = some z → ct_m l G n yX9_atom cX9_atom 2 (some .int) ({ frames := 4 + d, cells := 0, slots := 0, locals := 91 + 40 * d }) [.ref (cx_b G + ly_loc 9 0)] I J (ct_qi G n I z.1 z.2)) (hrc_X9_term : ∀ {I J : mm_T} {z : mm_T × Int32}, 144 ≤ n → rc 1 J = some z → ct_m l G n yX9_term cX9_term 2 (some .int) ({ frames := 4 + d, cells := 0, slots := 0, locals := 91 + 40 * d }) [.ref (cx_b G + ly_loc 9 0)] I J (ct_qi G n I z.1 z.2)) (hrc_X9_added : ∀ {I J : mm_T} {z : mm_T × Int32}, 144 ≤ n → rc 2 J = some z → ct_m l G n yX9_added cX9_added 4 (some .int) ({ frames := 4 + d, cells := 0, slots := 0, locals := 91 + 40 * d }) [.ref (cx_b G + ly_loc 9 0)] I J (ct_qi G n I z.1 z.2)) (hrc_X9_not : ∀ {I J : mm_T} {z : mm_T × Int32}, 144 ≤ n → rc 3 J = some z → ct_m l G n yX9_not cX9_not 4 (some .int) ({ frames := 4 + d, cells := 0, slots := 0, locals := 91 + 40 * d }) [.ref (cx_b G + ly_loc 9 0)] I J (ct_qi G n I z.1 z.2)) (hrc_X9_both : ∀ {I J : mm_T} {z : mm_T × Int32}, 144 ≤ n → rc 4 J = some z → ct_m l G n yX9_both cX9_both 3 (some .int) ({ frames := 4 + d, cells := 0, slots := 0, locals := 91 + 40 * d }) [.ref (cx_b G + ly_loc 9 0)] I J (ct_qi G n I z.1 z.2)) (hrc_X9_either : ∀ {I J : mm_T} {z : mm_T × Int32}, 144 ≤ n → rc 5 J = some z → ct_m l G n yX9_either cX9_either 3 (some .int) ({ frames := 4 + d, cells := 0, slots := 0, locals := 91 + 40 * d }) [.ref (cx_b G + ly_loc 9 0)] I J (ct_qi G n I z.1 z.2)) (hn : 144 ≤ n) {z : mm_T × Int32} (h : f_X9_atom N rc J = some z) : ct_m l G n yX9_atom cX9_atom 2 (some .int) ({ frames := 4 + (d + 1), cells := 0, slots := 0, locals := 91 + 40 * (d + 1) }) [.ref (cx_b G + ly_loc 9 0)] I J (ct_qi G n I z.1 z.2) := by
  refine ct_en (by decide) (Nat.le_of_ble_eq_true rfl) ?_
  intro p e s m args below meth c ls X S hl
  have X : cx_ok G p s m args meth c cX9_atom 2 RX9 (some .int) := X
  have hl : lv_has ls 2 [(0, .ref (cx_b G + ly_loc 9 0))] := hl
  unfold f_X9_atom at h
  refine lv_iconst (v := 0) X.1 X.2.1 dX9_atom_0 (by decide) ?_
  refine lv_istore_n (lv' := [(1, .int (0 : Int32)), (0, .ref (cx_b G + ly_loc 9 0))]) X.1 X.2.1 dX9_atom_1 rfl hl (by decide) rfl (fun ls hl => ?_)
  refine lv_aload_n X.1 X.2.1 dX9_atom_2 rfl (lv_at hl 1 rfl) ?_
  refine lv_bipush (v := 45) X.1 X.2.1 dX9_atom_3 (by decide) ?_
  obtain ⟨q_1, eq_1, h⟩ := pz_bd_e h
  refine r_Vi X S (c_X9_isSign hn eq_1) gd_X9_208 ⟨rfl, ny_X9_isSign⟩ ⟨rfl, rfl⟩ ⟨by dsimp only; omega, by dsimp only; omega⟩ (r_recv X S (ly_ok_9 (by decide) hn) rfl rfl) rfl rfl hl.1 (Nat.le_of_ble_eq_true rfl) dX9_atom_5 (fun H locs S => ?_)
  refine lv_if_eq (tgt := 37) X.1 X.2.1 dX9_atom_8 (by decide) (fun c_2 => ?_) (fun c_2 => ?_)
  · have h := pz_t c_2 h
    refine lv_aload_n X.1 X.2.1 dX9_atom_37 rfl (lv_at hl 1 rfl) ?_
    refine lv_bipush (v := 40) X.1 X.2.1 dX9_atom_38 (by decide) ?_
    obtain ⟨q_3, eq_3, h⟩ := pz_bd_e h
    refine r_Vi X S (c_X9_isSign hn eq_3) gd_X9_208 ⟨rfl, ny_X9_isSign⟩ ⟨rfl, rfl⟩ ⟨by dsimp only; omega, by dsimp only; omega⟩ (r_recv X S (ly_ok_9 (by decide) hn) rfl rfl) rfl rfl hl.1 (Nat.le_of_ble_eq_true rfl) dX9_atom_40 (fun H locs S => ?_)
    refine lv_if_eq (tgt := 95) X.1 X.2.1 dX9_atom_43 (by decide) (fun c_4 => ?_) (fun c_4 => ?_)
    · have h := pz_t c_4 h
      refine lv_aload_n X.1 X.2.1 dX9_atom_95 rfl (lv_at hl 1 rfl) ?_
      refine gf_X9_166 X S hn (by decide) dX9_atom_96 ?_
      refine lv_if_ne (tgt := 123) X.1 X.2.1 dX9_atom_99 (by decide) (fun c_5 => ?_) (fun c_5 => ?_)
      · have h := pz_f c_5 h
        exact w_X9_atom_L123 X hn hrc_X9_atom hrc_X9_term hrc_X9_added hrc_X9_not hrc_X9_both hrc_X9_either h S (lv_sub hl [1, 0] rfl)
      have h := pz_t c_5 h
      refine lv_aload_n X.1 X.2.1 dX9_atom_102 rfl (lv_at hl 1 rfl) ?_
      refine gf_X9_151 X S hn (by decide) dX9_atom_103 ?_
      refine lv_iconst (v := 2) X.1 X.2.1 dX9_atom_106 (by decide) ?_
      refine lv_icmp_ne (tgt := 123) X.1 X.2.1 dX9_atom_107 (by decide) (fun c_6 => ?_) (fun c_6 => ?_)
      · have h := pz_f c_6 h
        exact w_X9_atom_L123 X hn hrc_X9_atom hrc_X9_term hrc_X9_added hrc_X9_not hrc_X9_both hrc_X9_either h S (lv_sub hl [1, 0] rfl)
      have h := pz_t c_6 h
      refine lv_aload_n X.1 X.2.1 dX9_atom_110 rfl (lv_at hl 1 rfl) ?_
      refine gf_X9_162 X S hn (by decide) dX9_atom_111 ?_
      refine lv_l2i X.1 X.2.1 dX9_atom_114 rfl ?_
      refine lv_topi (fun x_7 ex_7 => ?_)
      have h := pz_lt_e h ex_7
      refine lv_istore_n (lv' := [(1, .int x_7), (0, .ref (cx_b G + ly_loc 9 0))]) X.1 X.2.1 dX9_atom_115 rfl hl (by decide) rfl (fun ls hl => ?_)
      refine lv_aload_n X.1 X.2.1 dX9_atom_116 rfl (lv_at hl 1 rfl) ?_
      obtain ⟨q_8, eq_8, h⟩ := pz_bd_e h
      refine r_Vv X S (c_X9_next hn eq_8) gd_X9_183 ⟨rfl, ny_X9_next⟩ ⟨rfl, rfl⟩ ⟨by dsimp only; omega, by dsimp only; omega⟩ (r_recv X S (ly_ok_9 (by decide) hn) rfl rfl) rfl rfl hl.1 (Nat.le_of_ble_eq_true rfl) dX9_atom_117 (fun H locs S => ?_)
      refine lv_goto (tgt := 161) X.1 X.2.1 dX9_atom_120 (by decide) ?_
      refine lv_iload_n X.1 X.2.1 dX9_atom_161 rfl (lv_at hl 0 rfl) ?_
      cases h
      exact r_iret X S dX9_atom_162
    have h := pz_f c_4 h
    refine lv_aload_n X.1 X.2.1 dX9_atom_46 rfl (lv_at hl 1 rfl) ?_
    obtain ⟨q_9, eq_9, h⟩ := pz_bd_e h
    refine r_Vi X S (c_X9_opens hn eq_9) gd_X9_211 ⟨rfl, ny_X9_opens⟩ ⟨rfl, rfl⟩ ⟨by dsimp only; omega, by dsimp only; omega⟩ (r_recv X S (ly_ok_9 (by decide) hn) rfl rfl) rfl rfl hl.1 (Nat.le_of_ble_eq_true rfl) dX9_atom_47 (fun H locs S => ?_)
    refine lv_if_eq (tgt := 161) X.1 X.2.1 dX9_atom_50 (by decide) (fun c_10 => ?_) (fun c_10 => ?_)
    · have h := pz_t c_10 h
      refine lv_iload_n X.1 X.2.1 dX9_atom_161 rfl (lv_at hl 0 rfl) ?_
      cases h
      exact r_iret X S dX9_atom_162
    have h := pz_f c_10 h
    refine lv_aload_n X.1 X.2.1 dX9_atom_53 rfl (lv_at hl 1 rfl) ?_
    obtain ⟨q_11, eq_11, h⟩ := pz_bd_e h
    refine r_Vi X S (hrc_X9_either hn eq_11) gd_X9_219 ⟨rfl, ny_X9_either⟩ ⟨rfl, rfl⟩ ⟨by dsimp only; omega, by dsimp only; omega⟩ (r_recv X S (ly_ok_9 (by decide) hn) rfl rfl) rfl rfl hl.1 (Nat.le_of_ble_eq_true rfl) dX9_atom_54 (fun H locs S => ?_)
    refine lv_topi (fun x_12 ex_12 => ?_)
    have h := pz_lt_e h ex_12
    refine lv_istore_n (lv' := [(1, .int x_12), (0, .ref (cx_b G + ly_loc 9 0))]) X.1 X.2.1 dX9_atom_57 rfl hl (by decide) rfl (fun ls hl => ?_)
    refine lv_aload_n X.1 X.2.1 dX9_atom_58 rfl (lv_at hl 1 rfl) ?_
    refine lv_bipush (v := 41) X.1 X.2.1 dX9_atom_59 (by decide) ?_
    obtain ⟨q_13, eq_13, h⟩ := pz_bd_e h
    refine r_Vi X S (c_X9_isSign hn eq_13) gd_X9_208 ⟨rfl, ny_X9_isSign⟩ ⟨rfl, rfl⟩ ⟨by dsimp only; omega, by dsimp only; omega⟩ (r_recv X S (ly_ok_9 (by decide) hn) rfl rfl) rfl rfl hl.1 (Nat.le_of_ble_eq_true rfl) dX9_atom_61 (fun H locs S => ?_)
    refine lv_if_ne (tgt := 71) X.1 X.2.1 dX9_atom_64 (by decide) (fun c_14 => ?_) (fun c_14 => ?_)
    · have h := pz_f c_14 h
      exact w_X9_atom_L71 X hn hrc_X9_atom hrc_X9_term hrc_X9_added hrc_X9_not hrc_X9_both hrc_X9_either h S (lv_sub hl [1, 0] rfl)
    have h := pz_t c_14 h
    refine lv_aload_n X.1 X.2.1 dX9_atom_67 rfl (lv_at hl 1 rfl) ?_
    obtain ⟨q_15, eq_15, h⟩ := pz_bd_e h
    refine r_Vv X S (c_X9_fail hn eq_15) gd_X9_180 ⟨rfl, ny_X9_fail⟩ ⟨rfl, rfl⟩ ⟨by dsimp only; omega, by dsimp only; omega⟩ (r_recv X S (ly_ok_9 (by decide) hn) rfl rfl) rfl rfl hl.1 (Nat.le_of_ble_eq_true rfl) dX9_atom_68 (fun H locs S => ?_)
    exact w_X9_atom_L71 X hn hrc_X9_atom hrc_X9_term hrc_X9_added hrc_X9_not hrc_X9_both hrc_X9_either h S (lv_sub hl [1, 0] rfl)
  have h := pz_f c_2 h
  refine lv_aload_n X.1 X.2.1 dX9_atom_11 rfl (lv_at hl 1 rfl) ?_
  obtain ⟨q_16, eq_16, h⟩ := pz_bd_e h
  refine r_Vi X S (c_X9_opens hn eq_16) gd_X9_211 ⟨rfl, ny_X9_opens⟩ ⟨rfl, rfl⟩ ⟨by dsimp only; omega, by dsimp only; omega⟩ (r_recv X S (ly_ok_9 (by decide) hn) rfl rfl) rfl rfl hl.1 (Nat.le_of_ble_eq_true rfl) dX9_atom_12 (fun H locs S => ?_)
  refine lv_if_eq (tgt := 161) X.1 X.2.1 dX9_atom_15 (by decide) (fun c_17 => ?_) (fun c_17 => ?_)
  · have h := pz_t c_17 h
    refine lv_iload_n X.1 X.2.1 dX9_atom_161 rfl (lv_at hl 0 rfl) ?_
    cases h
    exact r_iret X S dX9_atom_162
  have h := pz_f c_17 h
  refine lv_aload_n X.1 X.2.1 dX9_atom_18 rfl (lv_at hl 1 rfl) ?_
  obtain ⟨q_18, eq_18, h⟩ := pz_bd_e h
  refine r_Vi X S (hrc_X9_atom hn eq_18) gd_X9_215 ⟨rfl, ny_X9_atom⟩ ⟨rfl, rfl⟩ ⟨by dsimp only; omega, by dsimp only; omega⟩ (r_recv X S (ly_ok_9 (by decide) hn) rfl rfl) rfl rfl hl.1 (Nat.le_of_ble_eq_true rfl) dX9_atom_19 (fun H locs S => ?_)
  refine lv_ineg X.1 X.2.1 dX9_atom_22 ?_
  refine lv_topi (fun x_19 ex_19 => ?_)
  have h := pz_lt_e h ex_19
  refine lv_istore_n (lv' := [(1, .int x_19), (0, .ref (cx_b G + ly_loc 9 0))]) X.1 X.2.1 dX9_atom_23 rfl hl (by decide) rfl (fun ls hl => ?_)
  refine lv_aload_n X.1 X.2.1 dX9_atom_24 rfl (lv_at hl 1 rfl) ?_
  refine lv_dup X.1 X.2.1 dX9_atom_25 rfl ?_
  refine gf_X9_177 X S hn (by decide) dX9_atom_26 ?_
  refine lv_iconst (v := 1) X.1 X.2.1 dX9_atom_29 (by decide) ?_
  refine lv_isub X.1 X.2.1 dX9_atom_30 ?_
  refine pf_X9_177 X S hn (by decide) dX9_atom_31 (fun J_20 H locs eJ_20 S => ?_)
  have h := pz_lt_e h eJ_20
  refine lv_goto (tgt := 161) X.1 X.2.1 dX9_atom_34 (by decide) ?_
  refine lv_iload_n X.1 X.2.1 dX9_atom_161 rfl (lv_at hl 0 rfl) ?_
  cases h
  exact r_iret X S dX9_atom_162
def f_X9_term_L5 (N : Nat) (rc : Nat → mm_T → Option (mm_T × Int32)) : Nat → mm_T → Int32 → Option (mm_T × Int32)
  | 0, _, _ => none
  | cnt + 1, J, a1 => pz_bd (f_X9_isSign N J (42 : Int32)) fun q_3 => if q_3 = 0 then (some (J, a1)) else (pz_bd (f_X9_next N J) fun q_5 => pz_bd (rc 0 q_5) fun q_6 => pz_lt (a1 * q_6.2) fun x_7 => f_X9_term_L5 N rc cnt q_6.1 x_7)
set_option maxRecDepth 100000 in
set_option maxHeartbeats 4000000 in
theorem w_X9_term_L5 {l : Launch} {G : cx_T} {p : Program} {e : Env} {s : State} {m : MethodId} {args : Array Value} {below : List Frame} {meth : Method} {c : Code} {N n : Nat} {d : Nat} {rc : Nat → mm_T → Option (mm_T × Int32)} {I : mm_T} (X : cx_ok G p s m args meth c cX9_term 2 RX9 (some .int)) (hn : 144 ≤ n) (hrc_X9_atom : ∀ {I J : mm_T} {z : mm_T × Int32}, 144 ≤ n → rc 0 J = some z → ct_m l G n yX9_atom cX9_atom 2 (some .int) ({ frames := 4 + d, cells := 0, slots := 0, locals := 91 + 40 * d }) [.ref (cx_b G + ly_loc 9 0)] I J (ct_qi G n I z.1 z.2)) (hrc_X9_term : ∀ {I J : mm_T} {z : mm_T × Int32}, 144 ≤ n → rc 1 J = some z → ct_m l G n yX9_term cX9_term 2 (some .int) ({ frames := 4 + d, cells := 0, slots := 0, locals := 91 + 40 * d }) [.ref (cx_b G + ly_loc 9 0)] I J (ct_qi G n I z.1 z.2)) (hrc_X9_added : ∀ {I J : mm_T} {z : mm_T × Int32}, 144 ≤ n → rc 2 J = some z → ct_m l G n yX9_added cX9_added 4 (some .int) ({ frames := 4 + d, cells := 0, slots := 0, locals := 91 + 40 * d }) [.ref (cx_b G + ly_loc 9 0)] I J (ct_qi G n I z.1 z.2)) (hrc_X9_not : ∀ {I J : mm_T} {z : mm_T × Int32}, 144 ≤ n → rc 3 J = some z → ct_m l G n yX9_not cX9_not 4 (some .int) ({ frames := 4 + d, cells := 0, slots := 0, locals := 91 + 40 * d }) [.ref (cx_b G + ly_loc 9 0)] I J (ct_qi G n I z.1 z.2)) (hrc_X9_both : ∀ {I J : mm_T} {z : mm_T × Int32}, 144 ≤ n → rc 4 J = some z → ct_m l G n yX9_both cX9_both 3 (some .int) ({ frames := 4 + d, cells := 0, slots := 0, locals := 91 + 40 * d }) [.ref (cx_b G + ly_loc 9 0)] I J (ct_qi G n I z.1 z.2)) (hrc_X9_either : ∀ {I J : mm_T} {z : mm_T × Int32}, 144 ≤ n → rc 5 J = some z → ct_m l G n yX9_either cX9_either 3 (some .int) ({ frames := 4 + d, cells := 0, slots := 0, locals := 91 + 40 * d }) [.ref (cx_b G + ly_loc 9 0)] I J (ct_qi G n I z.1 z.2)) {z : mm_T × Int32} : ∀ (cnt : Nat) {J : mm_T} {a1 : Int32} {H : Heap} {locs : List Loc} {ls : Array Slot} , f_X9_term_L5 N rc cnt J a1 = some z → st_ok G n I J s H locs → lv_has ls 2 [(0, .ref (cx_b G + ly_loc 9 0)), (1, .int a1)] → W p l e ({ frames := 4 + (d + 1), cells := 0, slots := 0, locals := 91 + 40 * (d + 1) }) s m args below meth c H locs 0 0 (MQ below (ct_qi G n I z.1 z.2) args s 0 0 (cx_A G)) (F0 m 5 ls []) := by
  intro cnt
  induction cnt with
  | zero =>
    intro J a1 H locs ls h
    rw [f_X9_term_L5] at h
    cases h
  | succ cnt ih =>
    intro J a1 H locs ls h S hl
    rw [f_X9_term_L5] at h
    refine lv_aload_n X.1 X.2.1 dX9_term_5 rfl (lv_at hl 0 rfl) ?_
    refine lv_bipush (v := 42) X.1 X.2.1 dX9_term_6 (by decide) ?_
    obtain ⟨q_3, eq_3, h⟩ := pz_bd_e h
    refine r_Vi X S (c_X9_isSign hn eq_3) gd_X9_208 ⟨rfl, ny_X9_isSign⟩ ⟨rfl, rfl⟩ ⟨by dsimp only; omega, by dsimp only; omega⟩ (r_recv X S (ly_ok_9 (by decide) hn) rfl rfl) rfl rfl hl.1 (Nat.le_of_ble_eq_true rfl) dX9_term_8 (fun H locs S => ?_)
    refine lv_if_eq (tgt := 28) X.1 X.2.1 dX9_term_11 (by decide) (fun c_4 => ?_) (fun c_4 => ?_)
    · have h := pz_t c_4 h
      refine lv_iload_n X.1 X.2.1 dX9_term_28 rfl (lv_at hl 1 rfl) ?_
      cases h
      exact r_iret X S dX9_term_29
    have h := pz_f c_4 h
    refine lv_aload_n X.1 X.2.1 dX9_term_14 rfl (lv_at hl 0 rfl) ?_
    obtain ⟨q_5, eq_5, h⟩ := pz_bd_e h
    refine r_Vv X S (c_X9_next hn eq_5) gd_X9_183 ⟨rfl, ny_X9_next⟩ ⟨rfl, rfl⟩ ⟨by dsimp only; omega, by dsimp only; omega⟩ (r_recv X S (ly_ok_9 (by decide) hn) rfl rfl) rfl rfl hl.1 (Nat.le_of_ble_eq_true rfl) dX9_term_15 (fun H locs S => ?_)
    refine lv_iload_n X.1 X.2.1 dX9_term_18 rfl (lv_at hl 1 rfl) ?_
    refine lv_aload_n X.1 X.2.1 dX9_term_19 rfl (lv_at hl 0 rfl) ?_
    obtain ⟨q_6, eq_6, h⟩ := pz_bd_e h
    refine r_Vi X S (hrc_X9_atom hn eq_6) gd_X9_215 ⟨rfl, ny_X9_atom⟩ ⟨rfl, rfl⟩ ⟨by dsimp only; omega, by dsimp only; omega⟩ (r_recv X S (ly_ok_9 (by decide) hn) rfl rfl) rfl rfl hl.1 (Nat.le_of_ble_eq_true rfl) dX9_term_20 (fun H locs S => ?_)
    refine lv_imul X.1 X.2.1 dX9_term_23 ?_
    refine lv_topi (fun x_7 ex_7 => ?_)
    have h := pz_lt_e h ex_7
    refine lv_istore_n (lv' := [(1, .int x_7), (0, .ref (cx_b G + ly_loc 9 0))]) X.1 X.2.1 dX9_term_24 rfl hl (by decide) rfl (fun ls hl => ?_)
    refine lv_goto (tgt := 5) X.1 X.2.1 dX9_term_25 (by decide) ?_
    exact ih h S (lv_sub hl [1, 0] rfl)
def f_X9_term (N : Nat) (rc : Nat → mm_T → Option (mm_T × Int32)) (J : mm_T) : Option (mm_T × Int32) := pz_bd (rc 0 J) fun q_1 => pz_lt q_1.2 fun x_2 => f_X9_term_L5 N rc N q_1.1 x_2
set_option maxRecDepth 100000 in
set_option maxHeartbeats 4000000 in
theorem c_X9_term {l : Launch} {G : cx_T} {N n : Nat} {d : Nat} {rc : Nat → mm_T → Option (mm_T × Int32)} {I J : mm_T} (hrc_X9_atom : ∀ {I J : mm_T} {z : mm_T × Int32}, 144 ≤ n → rc 0 J = some z → ct_m l G n yX9_atom cX9_atom 2 (some .int) ({ frames := 4 + d, cells := 0, slots := 0, locals := 91 + 40 * d }) [.ref (cx_b G + ly_loc 9 0)] I J (ct_qi G n I z.1 z.2)) (hrc_X9_term : ∀ {I J : mm_T} {z : mm_T × Int32}, 144 ≤ n → rc 1 J = some z → ct_m l G n yX9_term cX9_term 2 (some .int) ({ frames := 4 + d, cells := 0, slots := 0, locals := 91 + 40 * d }) [.ref (cx_b G + ly_loc 9 0)] I J (ct_qi G n I z.1 z.2)) (hrc_X9_added : ∀ {I J : mm_T} {z : mm_T × Int32}, 144 ≤ n → rc 2 J = some z → ct_m l G n yX9_added cX9_added 4 (some .int) ({ frames := 4 + d, cells := 0, slots := 0, locals := 91 + 40 * d }) [.ref (cx_b G + ly_loc 9 0)] I J (ct_qi G n I z.1 z.2)) (hrc_X9_not : ∀ {I J : mm_T} {z : mm_T × Int32}, 144 ≤ n → rc 3 J = some z → ct_m l G n yX9_not cX9_not 4 (some .int) ({ frames := 4 + d, cells := 0, slots := 0, locals := 91 + 40 * d }) [.ref (cx_b G + ly_loc 9 0)] I J (ct_qi G n I z.1 z.2)) (hrc_X9_both : ∀ {I J : mm_T} {z : mm_T × Int32}, 144 ≤ n → rc 4 J = some z → ct_m l G n yX9_both cX9_both 3 (some .int) ({ frames := 4 + d, cells := 0, slots := 0, locals := 91 + 40 * d }) [.ref (cx_b G + ly_loc 9 0)] I J (ct_qi G n I z.1 z.2)) (hrc_X9_either : ∀ {I J : mm_T} {z : mm_T × Int32}, 144 ≤ n → rc 5 J = some z → ct_m l G n yX9_either cX9_either 3 (some .int) ({ frames := 4 + d, cells := 0, slots := 0, locals := 91 + 40 * d }) [.ref (cx_b G + ly_loc 9 0)] I J (ct_qi G n I z.1 z.2)) (hn : 144 ≤ n) {z : mm_T × Int32} (h : f_X9_term N rc J = some z) : ct_m l G n yX9_term cX9_term 2 (some .int) ({ frames := 4 + (d + 1), cells := 0, slots := 0, locals := 91 + 40 * (d + 1) }) [.ref (cx_b G + ly_loc 9 0)] I J (ct_qi G n I z.1 z.2) := by
  refine ct_en (by decide) (Nat.le_of_ble_eq_true rfl) ?_
  intro p e s m args below meth c ls X S hl
  have X : cx_ok G p s m args meth c cX9_term 2 RX9 (some .int) := X
  have hl : lv_has ls 2 [(0, .ref (cx_b G + ly_loc 9 0))] := hl
  unfold f_X9_term at h
  refine lv_aload_n X.1 X.2.1 dX9_term_0 rfl (lv_at hl 0 rfl) ?_
  obtain ⟨q_1, eq_1, h⟩ := pz_bd_e h
  refine r_Vi X S (hrc_X9_atom hn eq_1) gd_X9_215 ⟨rfl, ny_X9_atom⟩ ⟨rfl, rfl⟩ ⟨by dsimp only; omega, by dsimp only; omega⟩ (r_recv X S (ly_ok_9 (by decide) hn) rfl rfl) rfl rfl hl.1 (Nat.le_of_ble_eq_true rfl) dX9_term_1 (fun H locs S => ?_)
  refine lv_topi (fun x_2 ex_2 => ?_)
  have h := pz_lt_e h ex_2
  refine lv_istore_n (lv' := [(1, .int x_2), (0, .ref (cx_b G + ly_loc 9 0))]) X.1 X.2.1 dX9_term_4 rfl hl (by decide) rfl (fun ls hl => ?_)
  exact w_X9_term_L5 X hn hrc_X9_atom hrc_X9_term hrc_X9_added hrc_X9_not hrc_X9_both hrc_X9_either N h S (lv_sub hl [1, 0] rfl)
def f_X9_added_L62 (N : Nat) (rc : Nat → mm_T → Option (mm_T × Int32)) (k5 : mm_T → Int32 → Option (mm_T × Int32)) (J : mm_T) (s0 : Int32) : Option (mm_T × Int32) := k5 J s0
set_option maxRecDepth 100000 in
set_option maxHeartbeats 4000000 in
theorem w_X9_added_L62 {l : Launch} {G : cx_T} {p : Program} {e : Env} {s : State} {m : MethodId} {args : Array Value} {below : List Frame} {meth : Method} {c : Code} {N n : Nat} {d : Nat} {rc : Nat → mm_T → Option (mm_T × Int32)} {I : mm_T} (X : cx_ok G p s m args meth c cX9_added 4 RX9 (some .int)) (hn : 144 ≤ n) (hrc_X9_atom : ∀ {I J : mm_T} {z : mm_T × Int32}, 144 ≤ n → rc 0 J = some z → ct_m l G n yX9_atom cX9_atom 2 (some .int) ({ frames := 4 + d, cells := 0, slots := 0, locals := 91 + 40 * d }) [.ref (cx_b G + ly_loc 9 0)] I J (ct_qi G n I z.1 z.2)) (hrc_X9_term : ∀ {I J : mm_T} {z : mm_T × Int32}, 144 ≤ n → rc 1 J = some z → ct_m l G n yX9_term cX9_term 2 (some .int) ({ frames := 4 + d, cells := 0, slots := 0, locals := 91 + 40 * d }) [.ref (cx_b G + ly_loc 9 0)] I J (ct_qi G n I z.1 z.2)) (hrc_X9_added : ∀ {I J : mm_T} {z : mm_T × Int32}, 144 ≤ n → rc 2 J = some z → ct_m l G n yX9_added cX9_added 4 (some .int) ({ frames := 4 + d, cells := 0, slots := 0, locals := 91 + 40 * d }) [.ref (cx_b G + ly_loc 9 0)] I J (ct_qi G n I z.1 z.2)) (hrc_X9_not : ∀ {I J : mm_T} {z : mm_T × Int32}, 144 ≤ n → rc 3 J = some z → ct_m l G n yX9_not cX9_not 4 (some .int) ({ frames := 4 + d, cells := 0, slots := 0, locals := 91 + 40 * d }) [.ref (cx_b G + ly_loc 9 0)] I J (ct_qi G n I z.1 z.2)) (hrc_X9_both : ∀ {I J : mm_T} {z : mm_T × Int32}, 144 ≤ n → rc 4 J = some z → ct_m l G n yX9_both cX9_both 3 (some .int) ({ frames := 4 + d, cells := 0, slots := 0, locals := 91 + 40 * d }) [.ref (cx_b G + ly_loc 9 0)] I J (ct_qi G n I z.1 z.2)) (hrc_X9_either : ∀ {I J : mm_T} {z : mm_T × Int32}, 144 ≤ n → rc 5 J = some z → ct_m l G n yX9_either cX9_either 3 (some .int) ({ frames := 4 + d, cells := 0, slots := 0, locals := 91 + 40 * d }) [.ref (cx_b G + ly_loc 9 0)] I J (ct_qi G n I z.1 z.2)) {k5 : mm_T → Int32 → Option (mm_T × Int32)} {z : mm_T × Int32} (K5 : ∀ {J : mm_T} {a1 : Int32} {H : Heap} {locs : List Loc} {ls : Array Slot}, k5 J a1 = some z → st_ok G n I J s H locs → lv_has ls 4 [(0, .ref (cx_b G + ly_loc 9 0)), (1, .int a1)] → W p l e ({ frames := 4 + (d + 1), cells := 0, slots := 0, locals := 91 + 40 * (d + 1) }) s m args below meth c H locs 0 0 (MQ below (ct_qi G n I z.1 z.2) args s 0 0 (cx_A G)) (F0 m 5 ls [])) {J : mm_T} {s0 : Int32} {H : Heap} {locs : List Loc} {ls : Array Slot} (h : f_X9_added_L62 N rc k5 J s0 = some z) (S : st_ok G n I J s H locs) (hl : lv_has ls 4 [(0, .ref (cx_b G + ly_loc 9 0))]) : W p l e ({ frames := 4 + (d + 1), cells := 0, slots := 0, locals := 91 + 40 * (d + 1) }) s m args below meth c H locs 0 0 (MQ below (ct_qi G n I z.1 z.2) args s 0 0 (cx_A G)) (F0 m 62 ls [.int s0]) := by
  unfold f_X9_added_L62 at h
  refine lv_istore_n (lv' := [(1, .int s0), (0, .ref (cx_b G + ly_loc 9 0))]) X.1 X.2.1 dX9_added_62 rfl hl (by decide) rfl (fun ls hl => ?_)
  refine lv_goto (tgt := 5) X.1 X.2.1 dX9_added_63 (by decide) ?_
  exact K5 h S (lv_sub hl [1, 0] rfl)
def f_X9_added_L39 (N : Nat) (rc : Nat → mm_T → Option (mm_T × Int32)) (k5 : mm_T → Int32 → Option (mm_T × Int32)) (J : mm_T) (a1 : Int32) (s0 : Int32) : Option (mm_T × Int32) := pz_bd (f_X9_next N J) fun q_8 => pz_bd (rc 1 q_8) fun q_9 => pz_lt q_9.2 fun x_10 => if s0 = 0 then (f_X9_added_L62 N rc k5 q_9.1 (a1 - x_10)) else (f_X9_added_L62 N rc k5 q_9.1 (a1 + x_10))
set_option maxRecDepth 100000 in
set_option maxHeartbeats 4000000 in
theorem w_X9_added_L39 {l : Launch} {G : cx_T} {p : Program} {e : Env} {s : State} {m : MethodId} {args : Array Value} {below : List Frame} {meth : Method} {c : Code} {N n : Nat} {d : Nat} {rc : Nat → mm_T → Option (mm_T × Int32)} {I : mm_T} (X : cx_ok G p s m args meth c cX9_added 4 RX9 (some .int)) (hn : 144 ≤ n) (hrc_X9_atom : ∀ {I J : mm_T} {z : mm_T × Int32}, 144 ≤ n → rc 0 J = some z → ct_m l G n yX9_atom cX9_atom 2 (some .int) ({ frames := 4 + d, cells := 0, slots := 0, locals := 91 + 40 * d }) [.ref (cx_b G + ly_loc 9 0)] I J (ct_qi G n I z.1 z.2)) (hrc_X9_term : ∀ {I J : mm_T} {z : mm_T × Int32}, 144 ≤ n → rc 1 J = some z → ct_m l G n yX9_term cX9_term 2 (some .int) ({ frames := 4 + d, cells := 0, slots := 0, locals := 91 + 40 * d }) [.ref (cx_b G + ly_loc 9 0)] I J (ct_qi G n I z.1 z.2)) (hrc_X9_added : ∀ {I J : mm_T} {z : mm_T × Int32}, 144 ≤ n → rc 2 J = some z → ct_m l G n yX9_added cX9_added 4 (some .int) ({ frames := 4 + d, cells := 0, slots := 0, locals := 91 + 40 * d }) [.ref (cx_b G + ly_loc 9 0)] I J (ct_qi G n I z.1 z.2)) (hrc_X9_not : ∀ {I J : mm_T} {z : mm_T × Int32}, 144 ≤ n → rc 3 J = some z → ct_m l G n yX9_not cX9_not 4 (some .int) ({ frames := 4 + d, cells := 0, slots := 0, locals := 91 + 40 * d }) [.ref (cx_b G + ly_loc 9 0)] I J (ct_qi G n I z.1 z.2)) (hrc_X9_both : ∀ {I J : mm_T} {z : mm_T × Int32}, 144 ≤ n → rc 4 J = some z → ct_m l G n yX9_both cX9_both 3 (some .int) ({ frames := 4 + d, cells := 0, slots := 0, locals := 91 + 40 * d }) [.ref (cx_b G + ly_loc 9 0)] I J (ct_qi G n I z.1 z.2)) (hrc_X9_either : ∀ {I J : mm_T} {z : mm_T × Int32}, 144 ≤ n → rc 5 J = some z → ct_m l G n yX9_either cX9_either 3 (some .int) ({ frames := 4 + d, cells := 0, slots := 0, locals := 91 + 40 * d }) [.ref (cx_b G + ly_loc 9 0)] I J (ct_qi G n I z.1 z.2)) {k5 : mm_T → Int32 → Option (mm_T × Int32)} {z : mm_T × Int32} (K5 : ∀ {J : mm_T} {a1 : Int32} {H : Heap} {locs : List Loc} {ls : Array Slot}, k5 J a1 = some z → st_ok G n I J s H locs → lv_has ls 4 [(0, .ref (cx_b G + ly_loc 9 0)), (1, .int a1)] → W p l e ({ frames := 4 + (d + 1), cells := 0, slots := 0, locals := 91 + 40 * (d + 1) }) s m args below meth c H locs 0 0 (MQ below (ct_qi G n I z.1 z.2) args s 0 0 (cx_A G)) (F0 m 5 ls [])) {J : mm_T} {a1 : Int32} {s0 : Int32} {H : Heap} {locs : List Loc} {ls : Array Slot} (h : f_X9_added_L39 N rc k5 J a1 s0 = some z) (S : st_ok G n I J s H locs) (hl : lv_has ls 4 [(0, .ref (cx_b G + ly_loc 9 0)), (1, .int a1)]) : W p l e ({ frames := 4 + (d + 1), cells := 0, slots := 0, locals := 91 + 40 * (d + 1) }) s m args below meth c H locs 0 0 (MQ below (ct_qi G n I z.1 z.2) args s 0 0 (cx_A G)) (F0 m 39 ls [.int s0]) := by
  unfold f_X9_added_L39 at h
  refine lv_istore_n (lv' := [(2, .int s0), (0, .ref (cx_b G + ly_loc 9 0)), (1, .int a1)]) X.1 X.2.1 dX9_added_39 rfl hl (by decide) rfl (fun ls hl => ?_)
  refine lv_aload_n X.1 X.2.1 dX9_added_40 rfl (lv_at hl 1 rfl) ?_
  obtain ⟨q_8, eq_8, h⟩ := pz_bd_e h
  refine r_Vv X S (c_X9_next hn eq_8) gd_X9_183 ⟨rfl, ny_X9_next⟩ ⟨rfl, rfl⟩ ⟨by dsimp only; omega, by dsimp only; omega⟩ (r_recv X S (ly_ok_9 (by decide) hn) rfl rfl) rfl rfl hl.1 (Nat.le_of_ble_eq_true rfl) dX9_added_41 (fun H locs S => ?_)
  refine lv_aload_n X.1 X.2.1 dX9_added_44 rfl (lv_at hl 1 rfl) ?_
  obtain ⟨q_9, eq_9, h⟩ := pz_bd_e h
  refine r_Vi X S (hrc_X9_term hn eq_9) gd_X9_225 ⟨rfl, ny_X9_term⟩ ⟨rfl, rfl⟩ ⟨by dsimp only; omega, by dsimp only; omega⟩ (r_recv X S (ly_ok_9 (by decide) hn) rfl rfl) rfl rfl hl.1 (Nat.le_of_ble_eq_true rfl) dX9_added_45 (fun H locs S => ?_)
  refine lv_topi (fun x_10 ex_10 => ?_)
  have h := pz_lt_e h ex_10
  refine lv_istore_n (lv' := [(3, .int x_10), (2, .int s0), (0, .ref (cx_b G + ly_loc 9 0)), (1, .int a1)]) X.1 X.2.1 dX9_added_48 rfl hl (by decide) rfl (fun ls hl => ?_)
  refine lv_iload_n X.1 X.2.1 dX9_added_49 rfl (lv_at hl 1 rfl) ?_
  refine lv_if_eq (tgt := 59) X.1 X.2.1 dX9_added_50 (by decide) (fun c_11 => ?_) (fun c_11 => ?_)
  · have h := pz_t c_11 h
    refine lv_iload_n X.1 X.2.1 dX9_added_59 rfl (lv_at hl 3 rfl) ?_
    refine lv_iload_n X.1 X.2.1 dX9_added_60 rfl (lv_at hl 0 rfl) ?_
    refine lv_isub X.1 X.2.1 dX9_added_61 ?_
    exact w_X9_added_L62 X hn hrc_X9_atom hrc_X9_term hrc_X9_added hrc_X9_not hrc_X9_both hrc_X9_either K5 h S (lv_sub hl [2] rfl)
  have h := pz_f c_11 h
  refine lv_iload_n X.1 X.2.1 dX9_added_53 rfl (lv_at hl 3 rfl) ?_
  refine lv_iload_n X.1 X.2.1 dX9_added_54 rfl (lv_at hl 0 rfl) ?_
  refine lv_iadd X.1 X.2.1 dX9_added_55 ?_
  refine lv_goto (tgt := 62) X.1 X.2.1 dX9_added_56 (by decide) ?_
  exact w_X9_added_L62 X hn hrc_X9_atom hrc_X9_term hrc_X9_added hrc_X9_not hrc_X9_both hrc_X9_either K5 h S (lv_sub hl [2] rfl)
def f_X9_added_L23 (N : Nat) (rc : Nat → mm_T → Option (mm_T × Int32)) (k5 : mm_T → Int32 → Option (mm_T × Int32)) (J : mm_T) (a1 : Int32) : Option (mm_T × Int32) := if (lg_cmp ((J 9 0 28).toInt64) (43 : Int64)) = 0 then (f_X9_added_L39 N rc k5 J a1 (1 : Int32)) else (f_X9_added_L39 N rc k5 J a1 (0 : Int32))
set_option maxRecDepth 100000 in
set_option maxHeartbeats 4000000 in
theorem w_X9_added_L23 {l : Launch} {G : cx_T} {p : Program} {e : Env} {s : State} {m : MethodId} {args : Array Value} {below : List Frame} {meth : Method} {c : Code} {N n : Nat} {d : Nat} {rc : Nat → mm_T → Option (mm_T × Int32)} {I : mm_T} (X : cx_ok G p s m args meth c cX9_added 4 RX9 (some .int)) (hn : 144 ≤ n) (hrc_X9_atom : ∀ {I J : mm_T} {z : mm_T × Int32}, 144 ≤ n → rc 0 J = some z → ct_m l G n yX9_atom cX9_atom 2 (some .int) ({ frames := 4 + d, cells := 0, slots := 0, locals := 91 + 40 * d }) [.ref (cx_b G + ly_loc 9 0)] I J (ct_qi G n I z.1 z.2)) (hrc_X9_term : ∀ {I J : mm_T} {z : mm_T × Int32}, 144 ≤ n → rc 1 J = some z → ct_m l G n yX9_term cX9_term 2 (some .int) ({ frames := 4 + d, cells := 0, slots := 0, locals := 91 + 40 * d }) [.ref (cx_b G + ly_loc 9 0)] I J (ct_qi G n I z.1 z.2)) (hrc_X9_added : ∀ {I J : mm_T} {z : mm_T × Int32}, 144 ≤ n → rc 2 J = some z → ct_m l G n yX9_added cX9_added 4 (some .int) ({ frames := 4 + d, cells := 0, slots := 0, locals := 91 + 40 * d }) [.ref (cx_b G + ly_loc 9 0)] I J (ct_qi G n I z.1 z.2)) (hrc_X9_not : ∀ {I J : mm_T} {z : mm_T × Int32}, 144 ≤ n → rc 3 J = some z → ct_m l G n yX9_not cX9_not 4 (some .int) ({ frames := 4 + d, cells := 0, slots := 0, locals := 91 + 40 * d }) [.ref (cx_b G + ly_loc 9 0)] I J (ct_qi G n I z.1 z.2)) (hrc_X9_both : ∀ {I J : mm_T} {z : mm_T × Int32}, 144 ≤ n → rc 4 J = some z → ct_m l G n yX9_both cX9_both 3 (some .int) ({ frames := 4 + d, cells := 0, slots := 0, locals := 91 + 40 * d }) [.ref (cx_b G + ly_loc 9 0)] I J (ct_qi G n I z.1 z.2)) (hrc_X9_either : ∀ {I J : mm_T} {z : mm_T × Int32}, 144 ≤ n → rc 5 J = some z → ct_m l G n yX9_either cX9_either 3 (some .int) ({ frames := 4 + d, cells := 0, slots := 0, locals := 91 + 40 * d }) [.ref (cx_b G + ly_loc 9 0)] I J (ct_qi G n I z.1 z.2)) {k5 : mm_T → Int32 → Option (mm_T × Int32)} {z : mm_T × Int32} (K5 : ∀ {J : mm_T} {a1 : Int32} {H : Heap} {locs : List Loc} {ls : Array Slot}, k5 J a1 = some z → st_ok G n I J s H locs → lv_has ls 4 [(0, .ref (cx_b G + ly_loc 9 0)), (1, .int a1)] → W p l e ({ frames := 4 + (d + 1), cells := 0, slots := 0, locals := 91 + 40 * (d + 1) }) s m args below meth c H locs 0 0 (MQ below (ct_qi G n I z.1 z.2) args s 0 0 (cx_A G)) (F0 m 5 ls [])) {J : mm_T} {a1 : Int32} {H : Heap} {locs : List Loc} {ls : Array Slot} (h : f_X9_added_L23 N rc k5 J a1 = some z) (S : st_ok G n I J s H locs) (hl : lv_has ls 4 [(0, .ref (cx_b G + ly_loc 9 0)), (1, .int a1)]) : W p l e ({ frames := 4 + (d + 1), cells := 0, slots := 0, locals := 91 + 40 * (d + 1) }) s m args below meth c H locs 0 0 (MQ below (ct_qi G n I z.1 z.2) args s 0 0 (cx_A G)) (F0 m 23 ls []) := by
  unfold f_X9_added_L23 at h
  refine lv_aload_n X.1 X.2.1 dX9_added_23 rfl (lv_at hl 0 rfl) ?_
  refine gf_X9_162 X S hn (by decide) dX9_added_24 ?_
  refine lv_ldc2 (v := 43) X.1 X.2.1 X.2.2.2.1 (X.2.2.2.2.1 _ kw_X9_228) dX9_added_27 ?_
  refine W.lcmp X.1 X.2.1 dX9_added_30 ?_
  refine lv_if_ne (tgt := 38) X.1 X.2.1 dX9_added_31 (by decide) (fun c_7 => ?_) (fun c_7 => ?_)
  · have h := pz_f c_7 h
    refine lv_iconst (v := 0) X.1 X.2.1 dX9_added_38 (by decide) ?_
    exact w_X9_added_L39 X hn hrc_X9_atom hrc_X9_term hrc_X9_added hrc_X9_not hrc_X9_both hrc_X9_either K5 h S (lv_sub hl [0, 1] rfl)
  have h := pz_t c_7 h
  refine lv_iconst (v := 1) X.1 X.2.1 dX9_added_34 (by decide) ?_
  refine lv_goto (tgt := 39) X.1 X.2.1 dX9_added_35 (by decide) ?_
  exact w_X9_added_L39 X hn hrc_X9_atom hrc_X9_term hrc_X9_added hrc_X9_not hrc_X9_both hrc_X9_either K5 h S (lv_sub hl [0, 1] rfl)
def f_X9_added_L5 (N : Nat) (rc : Nat → mm_T → Option (mm_T × Int32)) : Nat → mm_T → Int32 → Option (mm_T × Int32)
  | 0, _, _ => none
  | cnt + 1, J, a1 => pz_bd (f_X9_isSign N J (43 : Int32)) fun q_3 => if q_3 = 0 then (pz_bd (f_X9_isSign N J (45 : Int32)) fun q_5 => if q_5 = 0 then (some (J, a1)) else (f_X9_added_L23 N rc (f_X9_added_L5 N rc cnt) J a1)) else (f_X9_added_L23 N rc (f_X9_added_L5 N rc cnt) J a1)
set_option maxRecDepth 100000 in
set_option maxHeartbeats 4000000 in
theorem w_X9_added_L5 {l : Launch} {G : cx_T} {p : Program} {e : Env} {s : State} {m : MethodId} {args : Array Value} {below : List Frame} {meth : Method} {c : Code} {N n : Nat} {d : Nat} {rc : Nat → mm_T → Option (mm_T × Int32)} {I : mm_T} (X : cx_ok G p s m args meth c cX9_added 4 RX9 (some .int)) (hn : 144 ≤ n) (hrc_X9_atom : ∀ {I J : mm_T} {z : mm_T × Int32}, 144 ≤ n → rc 0 J = some z → ct_m l G n yX9_atom cX9_atom 2 (some .int) ({ frames := 4 + d, cells := 0, slots := 0, locals := 91 + 40 * d }) [.ref (cx_b G + ly_loc 9 0)] I J (ct_qi G n I z.1 z.2)) (hrc_X9_term : ∀ {I J : mm_T} {z : mm_T × Int32}, 144 ≤ n → rc 1 J = some z → ct_m l G n yX9_term cX9_term 2 (some .int) ({ frames := 4 + d, cells := 0, slots := 0, locals := 91 + 40 * d }) [.ref (cx_b G + ly_loc 9 0)] I J (ct_qi G n I z.1 z.2)) (hrc_X9_added : ∀ {I J : mm_T} {z : mm_T × Int32}, 144 ≤ n → rc 2 J = some z → ct_m l G n yX9_added cX9_added 4 (some .int) ({ frames := 4 + d, cells := 0, slots := 0, locals := 91 + 40 * d }) [.ref (cx_b G + ly_loc 9 0)] I J (ct_qi G n I z.1 z.2)) (hrc_X9_not : ∀ {I J : mm_T} {z : mm_T × Int32}, 144 ≤ n → rc 3 J = some z → ct_m l G n yX9_not cX9_not 4 (some .int) ({ frames := 4 + d, cells := 0, slots := 0, locals := 91 + 40 * d }) [.ref (cx_b G + ly_loc 9 0)] I J (ct_qi G n I z.1 z.2)) (hrc_X9_both : ∀ {I J : mm_T} {z : mm_T × Int32}, 144 ≤ n → rc 4 J = some z → ct_m l G n yX9_both cX9_both 3 (some .int) ({ frames := 4 + d, cells := 0, slots := 0, locals := 91 + 40 * d }) [.ref (cx_b G + ly_loc 9 0)] I J (ct_qi G n I z.1 z.2)) (hrc_X9_either : ∀ {I J : mm_T} {z : mm_T × Int32}, 144 ≤ n → rc 5 J = some z → ct_m l G n yX9_either cX9_either 3 (some .int) ({ frames := 4 + d, cells := 0, slots := 0, locals := 91 + 40 * d }) [.ref (cx_b G + ly_loc 9 0)] I J (ct_qi G n I z.1 z.2)) {z : mm_T × Int32} : ∀ (cnt : Nat) {J : mm_T} {a1 : Int32} {H : Heap} {locs : List Loc} {ls : Array Slot} , f_X9_added_L5 N rc cnt J a1 = some z → st_ok G n I J s H locs → lv_has ls 4 [(0, .ref (cx_b G + ly_loc 9 0)), (1, .int a1)] → W p l e ({ frames := 4 + (d + 1), cells := 0, slots := 0, locals := 91 + 40 * (d + 1) }) s m args below meth c H locs 0 0 (MQ below (ct_qi G n I z.1 z.2) args s 0 0 (cx_A G)) (F0 m 5 ls []) := by
  intro cnt
  induction cnt with
  | zero =>
    intro J a1 H locs ls h
    rw [f_X9_added_L5] at h
    cases h
  | succ cnt ih =>
    intro J a1 H locs ls h S hl
    rw [f_X9_added_L5] at h
    refine lv_aload_n X.1 X.2.1 dX9_added_5 rfl (lv_at hl 0 rfl) ?_
    refine lv_bipush (v := 43) X.1 X.2.1 dX9_added_6 (by decide) ?_
    obtain ⟨q_3, eq_3, h⟩ := pz_bd_e h
    refine r_Vi X S (c_X9_isSign hn eq_3) gd_X9_208 ⟨rfl, ny_X9_isSign⟩ ⟨rfl, rfl⟩ ⟨by dsimp only; omega, by dsimp only; omega⟩ (r_recv X S (ly_ok_9 (by decide) hn) rfl rfl) rfl rfl hl.1 (Nat.le_of_ble_eq_true rfl) dX9_added_8 (fun H locs S => ?_)
    refine lv_if_ne (tgt := 23) X.1 X.2.1 dX9_added_11 (by decide) (fun c_4 => ?_) (fun c_4 => ?_)
    · have h := pz_f c_4 h
      exact w_X9_added_L23 X hn hrc_X9_atom hrc_X9_term hrc_X9_added hrc_X9_not hrc_X9_both hrc_X9_either ih h S (lv_sub hl [0, 1] rfl)
    have h := pz_t c_4 h
    refine lv_aload_n X.1 X.2.1 dX9_added_14 rfl (lv_at hl 0 rfl) ?_
    refine lv_bipush (v := 45) X.1 X.2.1 dX9_added_15 (by decide) ?_
    obtain ⟨q_5, eq_5, h⟩ := pz_bd_e h
    refine r_Vi X S (c_X9_isSign hn eq_5) gd_X9_208 ⟨rfl, ny_X9_isSign⟩ ⟨rfl, rfl⟩ ⟨by dsimp only; omega, by dsimp only; omega⟩ (r_recv X S (ly_ok_9 (by decide) hn) rfl rfl) rfl rfl hl.1 (Nat.le_of_ble_eq_true rfl) dX9_added_17 (fun H locs S => ?_)
    refine lv_if_eq (tgt := 66) X.1 X.2.1 dX9_added_20 (by decide) (fun c_6 => ?_) (fun c_6 => ?_)
    · have h := pz_t c_6 h
      refine lv_iload_n X.1 X.2.1 dX9_added_66 rfl (lv_at hl 1 rfl) ?_
      cases h
      exact r_iret X S dX9_added_67
    have h := pz_f c_6 h
    exact w_X9_added_L23 X hn hrc_X9_atom hrc_X9_term hrc_X9_added hrc_X9_not hrc_X9_both hrc_X9_either ih h S (lv_sub hl [0, 1] rfl)
def f_X9_added (N : Nat) (rc : Nat → mm_T → Option (mm_T × Int32)) (J : mm_T) : Option (mm_T × Int32) := pz_bd (rc 1 J) fun q_1 => pz_lt q_1.2 fun x_2 => f_X9_added_L5 N rc N q_1.1 x_2
set_option maxRecDepth 100000 in
set_option maxHeartbeats 4000000 in
theorem c_X9_added {l : Launch} {G : cx_T} {N n : Nat} {d : Nat} {rc : Nat → mm_T → Option (mm_T × Int32)} {I J : mm_T} (hrc_X9_atom : ∀ {I J : mm_T} {z : mm_T × Int32}, 144 ≤ n → rc 0 J = some z → ct_m l G n yX9_atom cX9_atom 2 (some .int) ({ frames := 4 + d, cells := 0, slots := 0, locals := 91 + 40 * d }) [.ref (cx_b G + ly_loc 9 0)] I J (ct_qi G n I z.1 z.2)) (hrc_X9_term : ∀ {I J : mm_T} {z : mm_T × Int32}, 144 ≤ n → rc 1 J = some z → ct_m l G n yX9_term cX9_term 2 (some .int) ({ frames := 4 + d, cells := 0, slots := 0, locals := 91 + 40 * d }) [.ref (cx_b G + ly_loc 9 0)] I J (ct_qi G n I z.1 z.2)) (hrc_X9_added : ∀ {I J : mm_T} {z : mm_T × Int32}, 144 ≤ n → rc 2 J = some z → ct_m l G n yX9_added cX9_added 4 (some .int) ({ frames := 4 + d, cells := 0, slots := 0, locals := 91 + 40 * d }) [.ref (cx_b G + ly_loc 9 0)] I J (ct_qi G n I z.1 z.2)) (hrc_X9_not : ∀ {I J : mm_T} {z : mm_T × Int32}, 144 ≤ n → rc 3 J = some z → ct_m l G n yX9_not cX9_not 4 (some .int) ({ frames := 4 + d, cells := 0, slots := 0, locals := 91 + 40 * d }) [.ref (cx_b G + ly_loc 9 0)] I J (ct_qi G n I z.1 z.2)) (hrc_X9_both : ∀ {I J : mm_T} {z : mm_T × Int32}, 144 ≤ n → rc 4 J = some z → ct_m l G n yX9_both cX9_both 3 (some .int) ({ frames := 4 + d, cells := 0, slots := 0, locals := 91 + 40 * d }) [.ref (cx_b G + ly_loc 9 0)] I J (ct_qi G n I z.1 z.2)) (hrc_X9_either : ∀ {I J : mm_T} {z : mm_T × Int32}, 144 ≤ n → rc 5 J = some z → ct_m l G n yX9_either cX9_either 3 (some .int) ({ frames := 4 + d, cells := 0, slots := 0, locals := 91 + 40 * d }) [.ref (cx_b G + ly_loc 9 0)] I J (ct_qi G n I z.1 z.2)) (hn : 144 ≤ n) {z : mm_T × Int32} (h : f_X9_added N rc J = some z) : ct_m l G n yX9_added cX9_added 4 (some .int) ({ frames := 4 + (d + 1), cells := 0, slots := 0, locals := 91 + 40 * (d + 1) }) [.ref (cx_b G + ly_loc 9 0)] I J (ct_qi G n I z.1 z.2) := by
  refine ct_en (by decide) (Nat.le_of_ble_eq_true rfl) ?_
  intro p e s m args below meth c ls X S hl
  have X : cx_ok G p s m args meth c cX9_added 4 RX9 (some .int) := X
  have hl : lv_has ls 4 [(0, .ref (cx_b G + ly_loc 9 0))] := hl
  unfold f_X9_added at h
  refine lv_aload_n X.1 X.2.1 dX9_added_0 rfl (lv_at hl 0 rfl) ?_
  obtain ⟨q_1, eq_1, h⟩ := pz_bd_e h
  refine r_Vi X S (hrc_X9_term hn eq_1) gd_X9_225 ⟨rfl, ny_X9_term⟩ ⟨rfl, rfl⟩ ⟨by dsimp only; omega, by dsimp only; omega⟩ (r_recv X S (ly_ok_9 (by decide) hn) rfl rfl) rfl rfl hl.1 (Nat.le_of_ble_eq_true rfl) dX9_added_1 (fun H locs S => ?_)
  refine lv_topi (fun x_2 ex_2 => ?_)
  have h := pz_lt_e h ex_2
  refine lv_istore_n (lv' := [(1, .int x_2), (0, .ref (cx_b G + ly_loc 9 0))]) X.1 X.2.1 dX9_added_4 rfl hl (by decide) rfl (fun ls hl => ?_)
  exact w_X9_added_L5 X hn hrc_X9_atom hrc_X9_term hrc_X9_added hrc_X9_not hrc_X9_both hrc_X9_either N h S (lv_sub hl [1, 0] rfl)
def f_X9_not_L93 (N : Nat) (rc : Nat → mm_T → Option (mm_T × Int32)) (J : mm_T) (a1 : Int32) (s0 : Int32) : Option (mm_T × Int32) := pz_bd (f_X9_next N J) fun q_16 => pz_bd (rc 2 q_16) fun q_17 => pz_lt q_17.2 fun x_18 => if s0 = 0 then (if a1 = x_18 then (some (q_17.1, (1 : Int32))) else (some (q_17.1, (0 : Int32)))) else (if x_18 ≤ a1 then (some (q_17.1, (0 : Int32))) else (some (q_17.1, (1 : Int32))))
set_option maxRecDepth 100000 in
set_option maxHeartbeats 4000000 in
theorem w_X9_not_L93 {l : Launch} {G : cx_T} {p : Program} {e : Env} {s : State} {m : MethodId} {args : Array Value} {below : List Frame} {meth : Method} {c : Code} {N n : Nat} {d : Nat} {rc : Nat → mm_T → Option (mm_T × Int32)} {I : mm_T} (X : cx_ok G p s m args meth c cX9_not 4 RX9 (some .int)) (hn : 144 ≤ n) (hrc_X9_atom : ∀ {I J : mm_T} {z : mm_T × Int32}, 144 ≤ n → rc 0 J = some z → ct_m l G n yX9_atom cX9_atom 2 (some .int) ({ frames := 4 + d, cells := 0, slots := 0, locals := 91 + 40 * d }) [.ref (cx_b G + ly_loc 9 0)] I J (ct_qi G n I z.1 z.2)) (hrc_X9_term : ∀ {I J : mm_T} {z : mm_T × Int32}, 144 ≤ n → rc 1 J = some z → ct_m l G n yX9_term cX9_term 2 (some .int) ({ frames := 4 + d, cells := 0, slots := 0, locals := 91 + 40 * d }) [.ref (cx_b G + ly_loc 9 0)] I J (ct_qi G n I z.1 z.2)) (hrc_X9_added : ∀ {I J : mm_T} {z : mm_T × Int32}, 144 ≤ n → rc 2 J = some z → ct_m l G n yX9_added cX9_added 4 (some .int) ({ frames := 4 + d, cells := 0, slots := 0, locals := 91 + 40 * d }) [.ref (cx_b G + ly_loc 9 0)] I J (ct_qi G n I z.1 z.2)) (hrc_X9_not : ∀ {I J : mm_T} {z : mm_T × Int32}, 144 ≤ n → rc 3 J = some z → ct_m l G n yX9_not cX9_not 4 (some .int) ({ frames := 4 + d, cells := 0, slots := 0, locals := 91 + 40 * d }) [.ref (cx_b G + ly_loc 9 0)] I J (ct_qi G n I z.1 z.2)) (hrc_X9_both : ∀ {I J : mm_T} {z : mm_T × Int32}, 144 ≤ n → rc 4 J = some z → ct_m l G n yX9_both cX9_both 3 (some .int) ({ frames := 4 + d, cells := 0, slots := 0, locals := 91 + 40 * d }) [.ref (cx_b G + ly_loc 9 0)] I J (ct_qi G n I z.1 z.2)) (hrc_X9_either : ∀ {I J : mm_T} {z : mm_T × Int32}, 144 ≤ n → rc 5 J = some z → ct_m l G n yX9_either cX9_either 3 (some .int) ({ frames := 4 + d, cells := 0, slots := 0, locals := 91 + 40 * d }) [.ref (cx_b G + ly_loc 9 0)] I J (ct_qi G n I z.1 z.2)) {z : mm_T × Int32} {J : mm_T} {a1 : Int32} {s0 : Int32} {H : Heap} {locs : List Loc} {ls : Array Slot} (h : f_X9_not_L93 N rc J a1 s0 = some z) (S : st_ok G n I J s H locs) (hl : lv_has ls 4 [(0, .ref (cx_b G + ly_loc 9 0)), (1, .int a1)]) : W p l e ({ frames := 4 + (d + 1), cells := 0, slots := 0, locals := 91 + 40 * (d + 1) }) s m args below meth c H locs 0 0 (MQ below (ct_qi G n I z.1 z.2) args s 0 0 (cx_A G)) (F0 m 93 ls [.int s0]) := by
  unfold f_X9_not_L93 at h
  refine lv_istore_n (lv' := [(2, .int s0), (0, .ref (cx_b G + ly_loc 9 0)), (1, .int a1)]) X.1 X.2.1 dX9_not_93 rfl hl (by decide) rfl (fun ls hl => ?_)
  refine lv_aload_n X.1 X.2.1 dX9_not_94 rfl (lv_at hl 1 rfl) ?_
  obtain ⟨q_16, eq_16, h⟩ := pz_bd_e h
  refine r_Vv X S (c_X9_next hn eq_16) gd_X9_183 ⟨rfl, ny_X9_next⟩ ⟨rfl, rfl⟩ ⟨by dsimp only; omega, by dsimp only; omega⟩ (r_recv X S (ly_ok_9 (by decide) hn) rfl rfl) rfl rfl hl.1 (Nat.le_of_ble_eq_true rfl) dX9_not_95 (fun H locs S => ?_)
  refine lv_aload_n X.1 X.2.1 dX9_not_98 rfl (lv_at hl 1 rfl) ?_
  obtain ⟨q_17, eq_17, h⟩ := pz_bd_e h
  refine r_Vi X S (hrc_X9_added hn eq_17) gd_X9_233 ⟨rfl, ny_X9_added⟩ ⟨rfl, rfl⟩ ⟨by dsimp only; omega, by dsimp only; omega⟩ (r_recv X S (ly_ok_9 (by decide) hn) rfl rfl) rfl rfl hl.1 (Nat.le_of_ble_eq_true rfl) dX9_not_99 (fun H locs S => ?_)
  refine lv_topi (fun x_18 ex_18 => ?_)
  have h := pz_lt_e h ex_18
  refine lv_istore_n (lv' := [(3, .int x_18), (2, .int s0), (0, .ref (cx_b G + ly_loc 9 0)), (1, .int a1)]) X.1 X.2.1 dX9_not_102 rfl hl (by decide) rfl (fun ls hl => ?_)
  refine lv_iload_n X.1 X.2.1 dX9_not_103 rfl (lv_at hl 1 rfl) ?_
  refine lv_if_eq (tgt := 115) X.1 X.2.1 dX9_not_104 (by decide) (fun c_19 => ?_) (fun c_19 => ?_)
  · have h := pz_t c_19 h
    refine lv_iload_n X.1 X.2.1 dX9_not_115 rfl (lv_at hl 3 rfl) ?_
    refine lv_iload_n X.1 X.2.1 dX9_not_116 rfl (lv_at hl 0 rfl) ?_
    refine lv_icmp_ne (tgt := 124) X.1 X.2.1 dX9_not_117 (by decide) (fun c_20 => ?_) (fun c_20 => ?_)
    · have h := pz_f c_20 h
      refine lv_iconst (v := 0) X.1 X.2.1 dX9_not_124 (by decide) ?_
      cases h
      exact r_iret X S dX9_not_125
    have h := pz_t c_20 h
    refine lv_iconst (v := 1) X.1 X.2.1 dX9_not_120 (by decide) ?_
    refine lv_goto (tgt := 125) X.1 X.2.1 dX9_not_121 (by decide) ?_
    cases h
    exact r_iret X S dX9_not_125
  have h := pz_f c_19 h
  refine lv_iload_n X.1 X.2.1 dX9_not_107 rfl (lv_at hl 3 rfl) ?_
  refine lv_iload_n X.1 X.2.1 dX9_not_108 rfl (lv_at hl 0 rfl) ?_
  refine lv_icmp_ge (tgt := 124) X.1 X.2.1 dX9_not_109 (by decide) (fun c_21 => ?_) (fun c_21 => ?_)
  · have h := pz_t c_21 h
    refine lv_iconst (v := 0) X.1 X.2.1 dX9_not_124 (by decide) ?_
    cases h
    exact r_iret X S dX9_not_125
  have h := pz_f c_21 h
  refine lv_goto (tgt := 120) X.1 X.2.1 dX9_not_112 (by decide) ?_
  refine lv_iconst (v := 1) X.1 X.2.1 dX9_not_120 (by decide) ?_
  refine lv_goto (tgt := 125) X.1 X.2.1 dX9_not_121 (by decide) ?_
  cases h
  exact r_iret X S dX9_not_125
def f_X9_not_L77 (N : Nat) (rc : Nat → mm_T → Option (mm_T × Int32)) (J : mm_T) (a1 : Int32) : Option (mm_T × Int32) := if (lg_cmp ((J 9 0 28).toInt64) (60 : Int64)) = 0 then (f_X9_not_L93 N rc J a1 (1 : Int32)) else (f_X9_not_L93 N rc J a1 (0 : Int32))
set_option maxRecDepth 100000 in
set_option maxHeartbeats 4000000 in
theorem w_X9_not_L77 {l : Launch} {G : cx_T} {p : Program} {e : Env} {s : State} {m : MethodId} {args : Array Value} {below : List Frame} {meth : Method} {c : Code} {N n : Nat} {d : Nat} {rc : Nat → mm_T → Option (mm_T × Int32)} {I : mm_T} (X : cx_ok G p s m args meth c cX9_not 4 RX9 (some .int)) (hn : 144 ≤ n) (hrc_X9_atom : ∀ {I J : mm_T} {z : mm_T × Int32}, 144 ≤ n → rc 0 J = some z → ct_m l G n yX9_atom cX9_atom 2 (some .int) ({ frames := 4 + d, cells := 0, slots := 0, locals := 91 + 40 * d }) [.ref (cx_b G + ly_loc 9 0)] I J (ct_qi G n I z.1 z.2)) (hrc_X9_term : ∀ {I J : mm_T} {z : mm_T × Int32}, 144 ≤ n → rc 1 J = some z → ct_m l G n yX9_term cX9_term 2 (some .int) ({ frames := 4 + d, cells := 0, slots := 0, locals := 91 + 40 * d }) [.ref (cx_b G + ly_loc 9 0)] I J (ct_qi G n I z.1 z.2)) (hrc_X9_added : ∀ {I J : mm_T} {z : mm_T × Int32}, 144 ≤ n → rc 2 J = some z → ct_m l G n yX9_added cX9_added 4 (some .int) ({ frames := 4 + d, cells := 0, slots := 0, locals := 91 + 40 * d }) [.ref (cx_b G + ly_loc 9 0)] I J (ct_qi G n I z.1 z.2)) (hrc_X9_not : ∀ {I J : mm_T} {z : mm_T × Int32}, 144 ≤ n → rc 3 J = some z → ct_m l G n yX9_not cX9_not 4 (some .int) ({ frames := 4 + d, cells := 0, slots := 0, locals := 91 + 40 * d }) [.ref (cx_b G + ly_loc 9 0)] I J (ct_qi G n I z.1 z.2)) (hrc_X9_both : ∀ {I J : mm_T} {z : mm_T × Int32}, 144 ≤ n → rc 4 J = some z → ct_m l G n yX9_both cX9_both 3 (some .int) ({ frames := 4 + d, cells := 0, slots := 0, locals := 91 + 40 * d }) [.ref (cx_b G + ly_loc 9 0)] I J (ct_qi G n I z.1 z.2)) (hrc_X9_either : ∀ {I J : mm_T} {z : mm_T × Int32}, 144 ≤ n → rc 5 J = some z → ct_m l G n yX9_either cX9_either 3 (some .int) ({ frames := 4 + d, cells := 0, slots := 0, locals := 91 + 40 * d }) [.ref (cx_b G + ly_loc 9 0)] I J (ct_qi G n I z.1 z.2)) {z : mm_T × Int32} {J : mm_T} {a1 : Int32} {H : Heap} {locs : List Loc} {ls : Array Slot} (h : f_X9_not_L77 N rc J a1 = some z) (S : st_ok G n I J s H locs) (hl : lv_has ls 4 [(0, .ref (cx_b G + ly_loc 9 0)), (1, .int a1)]) : W p l e ({ frames := 4 + (d + 1), cells := 0, slots := 0, locals := 91 + 40 * (d + 1) }) s m args below meth c H locs 0 0 (MQ below (ct_qi G n I z.1 z.2) args s 0 0 (cx_A G)) (F0 m 77 ls []) := by
  unfold f_X9_not_L77 at h
  refine lv_aload_n X.1 X.2.1 dX9_not_77 rfl (lv_at hl 0 rfl) ?_
  refine gf_X9_162 X S hn (by decide) dX9_not_78 ?_
  refine lv_ldc2 (v := 60) X.1 X.2.1 X.2.2.2.1 (X.2.2.2.2.1 _ kw_X9_236) dX9_not_81 ?_
  refine W.lcmp X.1 X.2.1 dX9_not_84 ?_
  refine lv_if_ne (tgt := 92) X.1 X.2.1 dX9_not_85 (by decide) (fun c_15 => ?_) (fun c_15 => ?_)
  · have h := pz_f c_15 h
    refine lv_iconst (v := 0) X.1 X.2.1 dX9_not_92 (by decide) ?_
    exact w_X9_not_L93 X hn hrc_X9_atom hrc_X9_term hrc_X9_added hrc_X9_not hrc_X9_both hrc_X9_either h S (lv_sub hl [0, 1] rfl)
  have h := pz_t c_15 h
  refine lv_iconst (v := 1) X.1 X.2.1 dX9_not_88 (by decide) ?_
  refine lv_goto (tgt := 93) X.1 X.2.1 dX9_not_89 (by decide) ?_
  exact w_X9_not_L93 X hn hrc_X9_atom hrc_X9_term hrc_X9_added hrc_X9_not hrc_X9_both hrc_X9_either h S (lv_sub hl [0, 1] rfl)
def f_X9_not (N : Nat) (rc : Nat → mm_T → Option (mm_T × Int32)) (J : mm_T) : Option (mm_T × Int32) := pz_bd (f_X9_isWord N J (110 : Int32) (111 : Int32) (116 : Int32) (0 : Int32) (0 : Int32) (0 : Int32) (0 : Int32) (0 : Int32)) fun q_1 => if q_1 = 0 then (pz_bd (rc 2 J) fun q_3 => pz_lt q_3.2 fun x_4 => pz_bd (f_X9_isSign N q_3.1 (60 : Int32)) fun q_5 => if q_5 = 0 then (pz_bd (f_X9_isSign N q_3.1 (61 : Int32)) fun q_7 => if q_7 = 0 then (some (q_3.1, x_4)) else (f_X9_not_L77 N rc q_3.1 x_4)) else (f_X9_not_L77 N rc q_3.1 x_4)) else (pz_bd (f_X9_opens N J) fun q_9 => if q_9.2 = 0 then (some (q_9.1, (0 : Int32))) else (pz_bd (rc 3 q_9.1) fun q_11 => pz_lt q_11.2 fun x_12 => pz_lt (mm_up q_11.1 9 0 29 ((q_11.1 9 0 29) - (1 : Int32))) fun J_13 => if x_12 = 0 then (some (J_13, (1 : Int32))) else (some (J_13, (0 : Int32)))))
set_option maxRecDepth 100000 in
set_option maxHeartbeats 4000000 in
theorem c_X9_not {l : Launch} {G : cx_T} {N n : Nat} {d : Nat} {rc : Nat → mm_T → Option (mm_T × Int32)} {I J : mm_T} (hrc_X9_atom : ∀ {I J : mm_T} {z : mm_T × Int32}, 144 ≤ n → rc 0 J = some z → ct_m l G n yX9_atom cX9_atom 2 (some .int) ({ frames := 4 + d, cells := 0, slots := 0, locals := 91 + 40 * d }) [.ref (cx_b G + ly_loc 9 0)] I J (ct_qi G n I z.1 z.2)) (hrc_X9_term : ∀ {I J : mm_T} {z : mm_T × Int32}, 144 ≤ n → rc 1 J = some z → ct_m l G n yX9_term cX9_term 2 (some .int) ({ frames := 4 + d, cells := 0, slots := 0, locals := 91 + 40 * d }) [.ref (cx_b G + ly_loc 9 0)] I J (ct_qi G n I z.1 z.2)) (hrc_X9_added : ∀ {I J : mm_T} {z : mm_T × Int32}, 144 ≤ n → rc 2 J = some z → ct_m l G n yX9_added cX9_added 4 (some .int) ({ frames := 4 + d, cells := 0, slots := 0, locals := 91 + 40 * d }) [.ref (cx_b G + ly_loc 9 0)] I J (ct_qi G n I z.1 z.2)) (hrc_X9_not : ∀ {I J : mm_T} {z : mm_T × Int32}, 144 ≤ n → rc 3 J = some z → ct_m l G n yX9_not cX9_not 4 (some .int) ({ frames := 4 + d, cells := 0, slots := 0, locals := 91 + 40 * d }) [.ref (cx_b G + ly_loc 9 0)] I J (ct_qi G n I z.1 z.2)) (hrc_X9_both : ∀ {I J : mm_T} {z : mm_T × Int32}, 144 ≤ n → rc 4 J = some z → ct_m l G n yX9_both cX9_both 3 (some .int) ({ frames := 4 + d, cells := 0, slots := 0, locals := 91 + 40 * d }) [.ref (cx_b G + ly_loc 9 0)] I J (ct_qi G n I z.1 z.2)) (hrc_X9_either : ∀ {I J : mm_T} {z : mm_T × Int32}, 144 ≤ n → rc 5 J = some z → ct_m l G n yX9_either cX9_either 3 (some .int) ({ frames := 4 + d, cells := 0, slots := 0, locals := 91 + 40 * d }) [.ref (cx_b G + ly_loc 9 0)] I J (ct_qi G n I z.1 z.2)) (hn : 144 ≤ n) {z : mm_T × Int32} (h : f_X9_not N rc J = some z) : ct_m l G n yX9_not cX9_not 4 (some .int) ({ frames := 4 + (d + 1), cells := 0, slots := 0, locals := 91 + 40 * (d + 1) }) [.ref (cx_b G + ly_loc 9 0)] I J (ct_qi G n I z.1 z.2) := by
  refine ct_en (by decide) (Nat.le_of_ble_eq_true rfl) ?_
  intro p e s m args below meth c ls X S hl
  have X : cx_ok G p s m args meth c cX9_not 4 RX9 (some .int) := X
  have hl : lv_has ls 4 [(0, .ref (cx_b G + ly_loc 9 0))] := hl
  unfold f_X9_not at h
  refine lv_aload_n X.1 X.2.1 dX9_not_0 rfl (lv_at hl 0 rfl) ?_
  refine lv_bipush (v := 110) X.1 X.2.1 dX9_not_1 (by decide) ?_
  refine lv_bipush (v := 111) X.1 X.2.1 dX9_not_3 (by decide) ?_
  refine lv_bipush (v := 116) X.1 X.2.1 dX9_not_5 (by decide) ?_
  refine lv_iconst (v := 0) X.1 X.2.1 dX9_not_7 (by decide) ?_
  refine lv_iconst (v := 0) X.1 X.2.1 dX9_not_8 (by decide) ?_
  refine lv_iconst (v := 0) X.1 X.2.1 dX9_not_9 (by decide) ?_
  refine lv_iconst (v := 0) X.1 X.2.1 dX9_not_10 (by decide) ?_
  refine lv_iconst (v := 0) X.1 X.2.1 dX9_not_11 (by decide) ?_
  obtain ⟨q_1, eq_1, h⟩ := pz_bd_e h
  refine r_Vi X S (c_X9_isWord hn eq_1) gd_X9_186 ⟨rfl, ny_X9_isWord⟩ ⟨rfl, rfl⟩ ⟨by dsimp only; omega, by dsimp only; omega⟩ (r_recv X S (ly_ok_9 (by decide) hn) rfl rfl) rfl rfl hl.1 (Nat.le_of_ble_eq_true rfl) dX9_not_12 (fun H locs S => ?_)
  refine lv_if_eq (tgt := 52) X.1 X.2.1 dX9_not_15 (by decide) (fun c_2 => ?_) (fun c_2 => ?_)
  · have h := pz_t c_2 h
    refine lv_aload_n X.1 X.2.1 dX9_not_52 rfl (lv_at hl 0 rfl) ?_
    obtain ⟨q_3, eq_3, h⟩ := pz_bd_e h
    refine r_Vi X S (hrc_X9_added hn eq_3) gd_X9_233 ⟨rfl, ny_X9_added⟩ ⟨rfl, rfl⟩ ⟨by dsimp only; omega, by dsimp only; omega⟩ (r_recv X S (ly_ok_9 (by decide) hn) rfl rfl) rfl rfl hl.1 (Nat.le_of_ble_eq_true rfl) dX9_not_53 (fun H locs S => ?_)
    refine lv_topi (fun x_4 ex_4 => ?_)
    have h := pz_lt_e h ex_4
    refine lv_istore_n (lv' := [(1, .int x_4), (0, .ref (cx_b G + ly_loc 9 0))]) X.1 X.2.1 dX9_not_56 rfl hl (by decide) rfl (fun ls hl => ?_)
    refine lv_aload_n X.1 X.2.1 dX9_not_57 rfl (lv_at hl 1 rfl) ?_
    refine lv_bipush (v := 60) X.1 X.2.1 dX9_not_58 (by decide) ?_
    obtain ⟨q_5, eq_5, h⟩ := pz_bd_e h
    refine r_Vi X S (c_X9_isSign hn eq_5) gd_X9_208 ⟨rfl, ny_X9_isSign⟩ ⟨rfl, rfl⟩ ⟨by dsimp only; omega, by dsimp only; omega⟩ (r_recv X S (ly_ok_9 (by decide) hn) rfl rfl) rfl rfl hl.1 (Nat.le_of_ble_eq_true rfl) dX9_not_60 (fun H locs S => ?_)
    refine lv_if_ne (tgt := 77) X.1 X.2.1 dX9_not_63 (by decide) (fun c_6 => ?_) (fun c_6 => ?_)
    · have h := pz_f c_6 h
      exact w_X9_not_L77 X hn hrc_X9_atom hrc_X9_term hrc_X9_added hrc_X9_not hrc_X9_both hrc_X9_either h S (lv_sub hl [1, 0] rfl)
    have h := pz_t c_6 h
    refine lv_aload_n X.1 X.2.1 dX9_not_66 rfl (lv_at hl 1 rfl) ?_
    refine lv_bipush (v := 61) X.1 X.2.1 dX9_not_67 (by decide) ?_
    obtain ⟨q_7, eq_7, h⟩ := pz_bd_e h
    refine r_Vi X S (c_X9_isSign hn eq_7) gd_X9_208 ⟨rfl, ny_X9_isSign⟩ ⟨rfl, rfl⟩ ⟨by dsimp only; omega, by dsimp only; omega⟩ (r_recv X S (ly_ok_9 (by decide) hn) rfl rfl) rfl rfl hl.1 (Nat.le_of_ble_eq_true rfl) dX9_not_69 (fun H locs S => ?_)
    refine lv_if_ne (tgt := 77) X.1 X.2.1 dX9_not_72 (by decide) (fun c_8 => ?_) (fun c_8 => ?_)
    · have h := pz_f c_8 h
      exact w_X9_not_L77 X hn hrc_X9_atom hrc_X9_term hrc_X9_added hrc_X9_not hrc_X9_both hrc_X9_either h S (lv_sub hl [1, 0] rfl)
    have h := pz_t c_8 h
    refine lv_iload_n X.1 X.2.1 dX9_not_75 rfl (lv_at hl 0 rfl) ?_
    cases h
    exact r_iret X S dX9_not_76
  have h := pz_f c_2 h
  refine lv_aload_n X.1 X.2.1 dX9_not_18 rfl (lv_at hl 0 rfl) ?_
  obtain ⟨q_9, eq_9, h⟩ := pz_bd_e h
  refine r_Vi X S (c_X9_opens hn eq_9) gd_X9_211 ⟨rfl, ny_X9_opens⟩ ⟨rfl, rfl⟩ ⟨by dsimp only; omega, by dsimp only; omega⟩ (r_recv X S (ly_ok_9 (by decide) hn) rfl rfl) rfl rfl hl.1 (Nat.le_of_ble_eq_true rfl) dX9_not_19 (fun H locs S => ?_)
  refine lv_if_ne (tgt := 27) X.1 X.2.1 dX9_not_22 (by decide) (fun c_10 => ?_) (fun c_10 => ?_)
  · have h := pz_f c_10 h
    refine lv_aload_n X.1 X.2.1 dX9_not_27 rfl (lv_at hl 0 rfl) ?_
    obtain ⟨q_11, eq_11, h⟩ := pz_bd_e h
    refine r_Vi X S (hrc_X9_not hn eq_11) gd_X9_230 ⟨rfl, ny_X9_not⟩ ⟨rfl, rfl⟩ ⟨by dsimp only; omega, by dsimp only; omega⟩ (r_recv X S (ly_ok_9 (by decide) hn) rfl rfl) rfl rfl hl.1 (Nat.le_of_ble_eq_true rfl) dX9_not_28 (fun H locs S => ?_)
    refine lv_topi (fun x_12 ex_12 => ?_)
    have h := pz_lt_e h ex_12
    refine lv_istore_n (lv' := [(1, .int x_12), (0, .ref (cx_b G + ly_loc 9 0))]) X.1 X.2.1 dX9_not_31 rfl hl (by decide) rfl (fun ls hl => ?_)
    refine lv_aload_n X.1 X.2.1 dX9_not_32 rfl (lv_at hl 1 rfl) ?_
    refine lv_dup X.1 X.2.1 dX9_not_33 rfl ?_
    refine gf_X9_177 X S hn (by decide) dX9_not_34 ?_
    refine lv_iconst (v := 1) X.1 X.2.1 dX9_not_37 (by decide) ?_
    refine lv_isub X.1 X.2.1 dX9_not_38 ?_
    refine pf_X9_177 X S hn (by decide) dX9_not_39 (fun J_13 H locs eJ_13 S => ?_)
    have h := pz_lt_e h eJ_13
    refine lv_iload_n X.1 X.2.1 dX9_not_42 rfl (lv_at hl 0 rfl) ?_
    refine lv_if_ne (tgt := 50) X.1 X.2.1 dX9_not_43 (by decide) (fun c_14 => ?_) (fun c_14 => ?_)
    · have h := pz_f c_14 h
      refine lv_iconst (v := 0) X.1 X.2.1 dX9_not_50 (by decide) ?_
      cases h
      exact r_iret X S dX9_not_51
    have h := pz_t c_14 h
    refine lv_iconst (v := 1) X.1 X.2.1 dX9_not_46 (by decide) ?_
    refine lv_goto (tgt := 51) X.1 X.2.1 dX9_not_47 (by decide) ?_
    cases h
    exact r_iret X S dX9_not_51
  have h := pz_t c_10 h
  refine lv_iconst (v := 0) X.1 X.2.1 dX9_not_25 (by decide) ?_
  cases h
  exact r_iret X S dX9_not_26
def f_X9_both_L45 (N : Nat) (rc : Nat → mm_T → Option (mm_T × Int32)) (k5 : mm_T → Int32 → Option (mm_T × Int32)) (J : mm_T) (s0 : Int32) : Option (mm_T × Int32) := k5 J s0
set_option maxRecDepth 100000 in
set_option maxHeartbeats 4000000 in
theorem w_X9_both_L45 {l : Launch} {G : cx_T} {p : Program} {e : Env} {s : State} {m : MethodId} {args : Array Value} {below : List Frame} {meth : Method} {c : Code} {N n : Nat} {d : Nat} {rc : Nat → mm_T → Option (mm_T × Int32)} {I : mm_T} (X : cx_ok G p s m args meth c cX9_both 3 RX9 (some .int)) (hn : 144 ≤ n) (hrc_X9_atom : ∀ {I J : mm_T} {z : mm_T × Int32}, 144 ≤ n → rc 0 J = some z → ct_m l G n yX9_atom cX9_atom 2 (some .int) ({ frames := 4 + d, cells := 0, slots := 0, locals := 91 + 40 * d }) [.ref (cx_b G + ly_loc 9 0)] I J (ct_qi G n I z.1 z.2)) (hrc_X9_term : ∀ {I J : mm_T} {z : mm_T × Int32}, 144 ≤ n → rc 1 J = some z → ct_m l G n yX9_term cX9_term 2 (some .int) ({ frames := 4 + d, cells := 0, slots := 0, locals := 91 + 40 * d }) [.ref (cx_b G + ly_loc 9 0)] I J (ct_qi G n I z.1 z.2)) (hrc_X9_added : ∀ {I J : mm_T} {z : mm_T × Int32}, 144 ≤ n → rc 2 J = some z → ct_m l G n yX9_added cX9_added 4 (some .int) ({ frames := 4 + d, cells := 0, slots := 0, locals := 91 + 40 * d }) [.ref (cx_b G + ly_loc 9 0)] I J (ct_qi G n I z.1 z.2)) (hrc_X9_not : ∀ {I J : mm_T} {z : mm_T × Int32}, 144 ≤ n → rc 3 J = some z → ct_m l G n yX9_not cX9_not 4 (some .int) ({ frames := 4 + d, cells := 0, slots := 0, locals := 91 + 40 * d }) [.ref (cx_b G + ly_loc 9 0)] I J (ct_qi G n I z.1 z.2)) (hrc_X9_both : ∀ {I J : mm_T} {z : mm_T × Int32}, 144 ≤ n → rc 4 J = some z → ct_m l G n yX9_both cX9_both 3 (some .int) ({ frames := 4 + d, cells := 0, slots := 0, locals := 91 + 40 * d }) [.ref (cx_b G + ly_loc 9 0)] I J (ct_qi G n I z.1 z.2)) (hrc_X9_either : ∀ {I J : mm_T} {z : mm_T × Int32}, 144 ≤ n → rc 5 J = some z → ct_m l G n yX9_either cX9_either 3 (some .int) ({ frames := 4 + d, cells := 0, slots := 0, locals := 91 + 40 * d }) [.ref (cx_b G + ly_loc 9 0)] I J (ct_qi G n I z.1 z.2)) {k5 : mm_T → Int32 → Option (mm_T × Int32)} {z : mm_T × Int32} (K5 : ∀ {J : mm_T} {a1 : Int32} {H : Heap} {locs : List Loc} {ls : Array Slot}, k5 J a1 = some z → st_ok G n I J s H locs → lv_has ls 3 [(0, .ref (cx_b G + ly_loc 9 0)), (1, .int a1)] → W p l e ({ frames := 4 + (d + 1), cells := 0, slots := 0, locals := 91 + 40 * (d + 1) }) s m args below meth c H locs 0 0 (MQ below (ct_qi G n I z.1 z.2) args s 0 0 (cx_A G)) (F0 m 5 ls [])) {J : mm_T} {s0 : Int32} {H : Heap} {locs : List Loc} {ls : Array Slot} (h : f_X9_both_L45 N rc k5 J s0 = some z) (S : st_ok G n I J s H locs) (hl : lv_has ls 3 [(0, .ref (cx_b G + ly_loc 9 0))]) : W p l e ({ frames := 4 + (d + 1), cells := 0, slots := 0, locals := 91 + 40 * (d + 1) }) s m args below meth c H locs 0 0 (MQ below (ct_qi G n I z.1 z.2) args s 0 0 (cx_A G)) (F0 m 45 ls [.int s0]) := by
  unfold f_X9_both_L45 at h
  refine lv_istore_n (lv' := [(1, .int s0), (0, .ref (cx_b G + ly_loc 9 0))]) X.1 X.2.1 dX9_both_45 rfl hl (by decide) rfl (fun ls hl => ?_)
  refine lv_goto (tgt := 5) X.1 X.2.1 dX9_both_46 (by decide) ?_
  exact K5 h S (lv_sub hl [1, 0] rfl)
def f_X9_both_L44 (N : Nat) (rc : Nat → mm_T → Option (mm_T × Int32)) (k5 : mm_T → Int32 → Option (mm_T × Int32)) (J : mm_T) : Option (mm_T × Int32) := f_X9_both_L45 N rc k5 J (0 : Int32)
set_option maxRecDepth 100000 in
set_option maxHeartbeats 4000000 in
theorem w_X9_both_L44 {l : Launch} {G : cx_T} {p : Program} {e : Env} {s : State} {m : MethodId} {args : Array Value} {below : List Frame} {meth : Method} {c : Code} {N n : Nat} {d : Nat} {rc : Nat → mm_T → Option (mm_T × Int32)} {I : mm_T} (X : cx_ok G p s m args meth c cX9_both 3 RX9 (some .int)) (hn : 144 ≤ n) (hrc_X9_atom : ∀ {I J : mm_T} {z : mm_T × Int32}, 144 ≤ n → rc 0 J = some z → ct_m l G n yX9_atom cX9_atom 2 (some .int) ({ frames := 4 + d, cells := 0, slots := 0, locals := 91 + 40 * d }) [.ref (cx_b G + ly_loc 9 0)] I J (ct_qi G n I z.1 z.2)) (hrc_X9_term : ∀ {I J : mm_T} {z : mm_T × Int32}, 144 ≤ n → rc 1 J = some z → ct_m l G n yX9_term cX9_term 2 (some .int) ({ frames := 4 + d, cells := 0, slots := 0, locals := 91 + 40 * d }) [.ref (cx_b G + ly_loc 9 0)] I J (ct_qi G n I z.1 z.2)) (hrc_X9_added : ∀ {I J : mm_T} {z : mm_T × Int32}, 144 ≤ n → rc 2 J = some z → ct_m l G n yX9_added cX9_added 4 (some .int) ({ frames := 4 + d, cells := 0, slots := 0, locals := 91 + 40 * d }) [.ref (cx_b G + ly_loc 9 0)] I J (ct_qi G n I z.1 z.2)) (hrc_X9_not : ∀ {I J : mm_T} {z : mm_T × Int32}, 144 ≤ n → rc 3 J = some z → ct_m l G n yX9_not cX9_not 4 (some .int) ({ frames := 4 + d, cells := 0, slots := 0, locals := 91 + 40 * d }) [.ref (cx_b G + ly_loc 9 0)] I J (ct_qi G n I z.1 z.2)) (hrc_X9_both : ∀ {I J : mm_T} {z : mm_T × Int32}, 144 ≤ n → rc 4 J = some z → ct_m l G n yX9_both cX9_both 3 (some .int) ({ frames := 4 + d, cells := 0, slots := 0, locals := 91 + 40 * d }) [.ref (cx_b G + ly_loc 9 0)] I J (ct_qi G n I z.1 z.2)) (hrc_X9_either : ∀ {I J : mm_T} {z : mm_T × Int32}, 144 ≤ n → rc 5 J = some z → ct_m l G n yX9_either cX9_either 3 (some .int) ({ frames := 4 + d, cells := 0, slots := 0, locals := 91 + 40 * d }) [.ref (cx_b G + ly_loc 9 0)] I J (ct_qi G n I z.1 z.2)) {k5 : mm_T → Int32 → Option (mm_T × Int32)} {z : mm_T × Int32} (K5 : ∀ {J : mm_T} {a1 : Int32} {H : Heap} {locs : List Loc} {ls : Array Slot}, k5 J a1 = some z → st_ok G n I J s H locs → lv_has ls 3 [(0, .ref (cx_b G + ly_loc 9 0)), (1, .int a1)] → W p l e ({ frames := 4 + (d + 1), cells := 0, slots := 0, locals := 91 + 40 * (d + 1) }) s m args below meth c H locs 0 0 (MQ below (ct_qi G n I z.1 z.2) args s 0 0 (cx_A G)) (F0 m 5 ls [])) {J : mm_T} {H : Heap} {locs : List Loc} {ls : Array Slot} (h : f_X9_both_L44 N rc k5 J = some z) (S : st_ok G n I J s H locs) (hl : lv_has ls 3 [(0, .ref (cx_b G + ly_loc 9 0))]) : W p l e ({ frames := 4 + (d + 1), cells := 0, slots := 0, locals := 91 + 40 * (d + 1) }) s m args below meth c H locs 0 0 (MQ below (ct_qi G n I z.1 z.2) args s 0 0 (cx_A G)) (F0 m 44 ls []) := by
  unfold f_X9_both_L44 at h
  refine lv_iconst (v := 0) X.1 X.2.1 dX9_both_44 (by decide) ?_
  exact w_X9_both_L45 X hn hrc_X9_atom hrc_X9_term hrc_X9_added hrc_X9_not hrc_X9_both hrc_X9_either K5 h S (lv_sub hl [0] rfl)
def f_X9_both_L5 (N : Nat) (rc : Nat → mm_T → Option (mm_T × Int32)) : Nat → mm_T → Int32 → Option (mm_T × Int32)
  | 0, _, _ => none
  | cnt + 1, J, a1 => pz_bd (f_X9_isWord N J (97 : Int32) (110 : Int32) (100 : Int32) (0 : Int32) (0 : Int32) (0 : Int32) (0 : Int32) (0 : Int32)) fun q_3 => if q_3 = 0 then (some (J, a1)) else (pz_bd (f_X9_next N J) fun q_5 => pz_bd (rc 3 q_5) fun q_6 => pz_lt q_6.2 fun x_7 => if a1 = 0 then (f_X9_both_L44 N rc (f_X9_both_L5 N rc cnt) q_6.1) else (if x_7 = 0 then (f_X9_both_L44 N rc (f_X9_both_L5 N rc cnt) q_6.1) else (f_X9_both_L45 N rc (f_X9_both_L5 N rc cnt) q_6.1 (1 : Int32))))
set_option maxRecDepth 100000 in
set_option maxHeartbeats 4000000 in
theorem w_X9_both_L5 {l : Launch} {G : cx_T} {p : Program} {e : Env} {s : State} {m : MethodId} {args : Array Value} {below : List Frame} {meth : Method} {c : Code} {N n : Nat} {d : Nat} {rc : Nat → mm_T → Option (mm_T × Int32)} {I : mm_T} (X : cx_ok G p s m args meth c cX9_both 3 RX9 (some .int)) (hn : 144 ≤ n) (hrc_X9_atom : ∀ {I J : mm_T} {z : mm_T × Int32}, 144 ≤ n → rc 0 J = some z → ct_m l G n yX9_atom cX9_atom 2 (some .int) ({ frames := 4 + d, cells := 0, slots := 0, locals := 91 + 40 * d }) [.ref (cx_b G + ly_loc 9 0)] I J (ct_qi G n I z.1 z.2)) (hrc_X9_term : ∀ {I J : mm_T} {z : mm_T × Int32}, 144 ≤ n → rc 1 J = some z → ct_m l G n yX9_term cX9_term 2 (some .int) ({ frames := 4 + d, cells := 0, slots := 0, locals := 91 + 40 * d }) [.ref (cx_b G + ly_loc 9 0)] I J (ct_qi G n I z.1 z.2)) (hrc_X9_added : ∀ {I J : mm_T} {z : mm_T × Int32}, 144 ≤ n → rc 2 J = some z → ct_m l G n yX9_added cX9_added 4 (some .int) ({ frames := 4 + d, cells := 0, slots := 0, locals := 91 + 40 * d }) [.ref (cx_b G + ly_loc 9 0)] I J (ct_qi G n I z.1 z.2)) (hrc_X9_not : ∀ {I J : mm_T} {z : mm_T × Int32}, 144 ≤ n → rc 3 J = some z → ct_m l G n yX9_not cX9_not 4 (some .int) ({ frames := 4 + d, cells := 0, slots := 0, locals := 91 + 40 * d }) [.ref (cx_b G + ly_loc 9 0)] I J (ct_qi G n I z.1 z.2)) (hrc_X9_both : ∀ {I J : mm_T} {z : mm_T × Int32}, 144 ≤ n → rc 4 J = some z → ct_m l G n yX9_both cX9_both 3 (some .int) ({ frames := 4 + d, cells := 0, slots := 0, locals := 91 + 40 * d }) [.ref (cx_b G + ly_loc 9 0)] I J (ct_qi G n I z.1 z.2)) (hrc_X9_either : ∀ {I J : mm_T} {z : mm_T × Int32}, 144 ≤ n → rc 5 J = some z → ct_m l G n yX9_either cX9_either 3 (some .int) ({ frames := 4 + d, cells := 0, slots := 0, locals := 91 + 40 * d }) [.ref (cx_b G + ly_loc 9 0)] I J (ct_qi G n I z.1 z.2)) {z : mm_T × Int32} : ∀ (cnt : Nat) {J : mm_T} {a1 : Int32} {H : Heap} {locs : List Loc} {ls : Array Slot} , f_X9_both_L5 N rc cnt J a1 = some z → st_ok G n I J s H locs → lv_has ls 3 [(0, .ref (cx_b G + ly_loc 9 0)), (1, .int a1)] → W p l e ({ frames := 4 + (d + 1), cells := 0, slots := 0, locals := 91 + 40 * (d + 1) }) s m args below meth c H locs 0 0 (MQ below (ct_qi G n I z.1 z.2) args s 0 0 (cx_A G)) (F0 m 5 ls []) := by
  intro cnt
  induction cnt with
  | zero =>
    intro J a1 H locs ls h
    rw [f_X9_both_L5] at h
    cases h
  | succ cnt ih =>
    intro J a1 H locs ls h S hl
    rw [f_X9_both_L5] at h
    refine lv_aload_n X.1 X.2.1 dX9_both_5 rfl (lv_at hl 0 rfl) ?_
    refine lv_bipush (v := 97) X.1 X.2.1 dX9_both_6 (by decide) ?_
    refine lv_bipush (v := 110) X.1 X.2.1 dX9_both_8 (by decide) ?_
    refine lv_bipush (v := 100) X.1 X.2.1 dX9_both_10 (by decide) ?_
    refine lv_iconst (v := 0) X.1 X.2.1 dX9_both_12 (by decide) ?_
    refine lv_iconst (v := 0) X.1 X.2.1 dX9_both_13 (by decide) ?_
    refine lv_iconst (v := 0) X.1 X.2.1 dX9_both_14 (by decide) ?_
    refine lv_iconst (v := 0) X.1 X.2.1 dX9_both_15 (by decide) ?_
    refine lv_iconst (v := 0) X.1 X.2.1 dX9_both_16 (by decide) ?_
    obtain ⟨q_3, eq_3, h⟩ := pz_bd_e h
    refine r_Vi X S (c_X9_isWord hn eq_3) gd_X9_186 ⟨rfl, ny_X9_isWord⟩ ⟨rfl, rfl⟩ ⟨by dsimp only; omega, by dsimp only; omega⟩ (r_recv X S (ly_ok_9 (by decide) hn) rfl rfl) rfl rfl hl.1 (Nat.le_of_ble_eq_true rfl) dX9_both_17 (fun H locs S => ?_)
    refine lv_if_eq (tgt := 49) X.1 X.2.1 dX9_both_20 (by decide) (fun c_4 => ?_) (fun c_4 => ?_)
    · have h := pz_t c_4 h
      refine lv_iload_n X.1 X.2.1 dX9_both_49 rfl (lv_at hl 1 rfl) ?_
      cases h
      exact r_iret X S dX9_both_50
    have h := pz_f c_4 h
    refine lv_aload_n X.1 X.2.1 dX9_both_23 rfl (lv_at hl 0 rfl) ?_
    obtain ⟨q_5, eq_5, h⟩ := pz_bd_e h
    refine r_Vv X S (c_X9_next hn eq_5) gd_X9_183 ⟨rfl, ny_X9_next⟩ ⟨rfl, rfl⟩ ⟨by dsimp only; omega, by dsimp only; omega⟩ (r_recv X S (ly_ok_9 (by decide) hn) rfl rfl) rfl rfl hl.1 (Nat.le_of_ble_eq_true rfl) dX9_both_24 (fun H locs S => ?_)
    refine lv_aload_n X.1 X.2.1 dX9_both_27 rfl (lv_at hl 0 rfl) ?_
    obtain ⟨q_6, eq_6, h⟩ := pz_bd_e h
    refine r_Vi X S (hrc_X9_not hn eq_6) gd_X9_230 ⟨rfl, ny_X9_not⟩ ⟨rfl, rfl⟩ ⟨by dsimp only; omega, by dsimp only; omega⟩ (r_recv X S (ly_ok_9 (by decide) hn) rfl rfl) rfl rfl hl.1 (Nat.le_of_ble_eq_true rfl) dX9_both_28 (fun H locs S => ?_)
    refine lv_topi (fun x_7 ex_7 => ?_)
    have h := pz_lt_e h ex_7
    refine lv_istore_n (lv' := [(2, .int x_7), (0, .ref (cx_b G + ly_loc 9 0)), (1, .int a1)]) X.1 X.2.1 dX9_both_31 rfl hl (by decide) rfl (fun ls hl => ?_)
    refine lv_iload_n X.1 X.2.1 dX9_both_32 rfl (lv_at hl 2 rfl) ?_
    refine lv_if_eq (tgt := 44) X.1 X.2.1 dX9_both_33 (by decide) (fun c_8 => ?_) (fun c_8 => ?_)
    · have h := pz_t c_8 h
      exact w_X9_both_L44 X hn hrc_X9_atom hrc_X9_term hrc_X9_added hrc_X9_not hrc_X9_both hrc_X9_either ih h S (lv_sub hl [1] rfl)
    have h := pz_f c_8 h
    refine lv_iload_n X.1 X.2.1 dX9_both_36 rfl (lv_at hl 0 rfl) ?_
    refine lv_if_eq (tgt := 44) X.1 X.2.1 dX9_both_37 (by decide) (fun c_9 => ?_) (fun c_9 => ?_)
    · have h := pz_t c_9 h
      exact w_X9_both_L44 X hn hrc_X9_atom hrc_X9_term hrc_X9_added hrc_X9_not hrc_X9_both hrc_X9_either ih h S (lv_sub hl [1] rfl)
    have h := pz_f c_9 h
    refine lv_iconst (v := 1) X.1 X.2.1 dX9_both_40 (by decide) ?_
    refine lv_goto (tgt := 45) X.1 X.2.1 dX9_both_41 (by decide) ?_
    exact w_X9_both_L45 X hn hrc_X9_atom hrc_X9_term hrc_X9_added hrc_X9_not hrc_X9_both hrc_X9_either ih h S (lv_sub hl [1] rfl)
def f_X9_both (N : Nat) (rc : Nat → mm_T → Option (mm_T × Int32)) (J : mm_T) : Option (mm_T × Int32) := pz_bd (rc 3 J) fun q_1 => pz_lt q_1.2 fun x_2 => f_X9_both_L5 N rc N q_1.1 x_2
set_option maxRecDepth 100000 in
set_option maxHeartbeats 4000000 in
theorem c_X9_both {l : Launch} {G : cx_T} {N n : Nat} {d : Nat} {rc : Nat → mm_T → Option (mm_T × Int32)} {I J : mm_T} (hrc_X9_atom : ∀ {I J : mm_T} {z : mm_T × Int32}, 144 ≤ n → rc 0 J = some z → ct_m l G n yX9_atom cX9_atom 2 (some .int) ({ frames := 4 + d, cells := 0, slots := 0, locals := 91 + 40 * d }) [.ref (cx_b G + ly_loc 9 0)] I J (ct_qi G n I z.1 z.2)) (hrc_X9_term : ∀ {I J : mm_T} {z : mm_T × Int32}, 144 ≤ n → rc 1 J = some z → ct_m l G n yX9_term cX9_term 2 (some .int) ({ frames := 4 + d, cells := 0, slots := 0, locals := 91 + 40 * d }) [.ref (cx_b G + ly_loc 9 0)] I J (ct_qi G n I z.1 z.2)) (hrc_X9_added : ∀ {I J : mm_T} {z : mm_T × Int32}, 144 ≤ n → rc 2 J = some z → ct_m l G n yX9_added cX9_added 4 (some .int) ({ frames := 4 + d, cells := 0, slots := 0, locals := 91 + 40 * d }) [.ref (cx_b G + ly_loc 9 0)] I J (ct_qi G n I z.1 z.2)) (hrc_X9_not : ∀ {I J : mm_T} {z : mm_T × Int32}, 144 ≤ n → rc 3 J = some z → ct_m l G n yX9_not cX9_not 4 (some .int) ({ frames := 4 + d, cells := 0, slots := 0, locals := 91 + 40 * d }) [.ref (cx_b G + ly_loc 9 0)] I J (ct_qi G n I z.1 z.2)) (hrc_X9_both : ∀ {I J : mm_T} {z : mm_T × Int32}, 144 ≤ n → rc 4 J = some z → ct_m l G n yX9_both cX9_both 3 (some .int) ({ frames := 4 + d, cells := 0, slots := 0, locals := 91 + 40 * d }) [.ref (cx_b G + ly_loc 9 0)] I J (ct_qi G n I z.1 z.2)) (hrc_X9_either : ∀ {I J : mm_T} {z : mm_T × Int32}, 144 ≤ n → rc 5 J = some z → ct_m l G n yX9_either cX9_either 3 (some .int) ({ frames := 4 + d, cells := 0, slots := 0, locals := 91 + 40 * d }) [.ref (cx_b G + ly_loc 9 0)] I J (ct_qi G n I z.1 z.2)) (hn : 144 ≤ n) {z : mm_T × Int32} (h : f_X9_both N rc J = some z) : ct_m l G n yX9_both cX9_both 3 (some .int) ({ frames := 4 + (d + 1), cells := 0, slots := 0, locals := 91 + 40 * (d + 1) }) [.ref (cx_b G + ly_loc 9 0)] I J (ct_qi G n I z.1 z.2) := by
  refine ct_en (by decide) (Nat.le_of_ble_eq_true rfl) ?_
  intro p e s m args below meth c ls X S hl
  have X : cx_ok G p s m args meth c cX9_both 3 RX9 (some .int) := X
  have hl : lv_has ls 3 [(0, .ref (cx_b G + ly_loc 9 0))] := hl
  unfold f_X9_both at h
  refine lv_aload_n X.1 X.2.1 dX9_both_0 rfl (lv_at hl 0 rfl) ?_
  obtain ⟨q_1, eq_1, h⟩ := pz_bd_e h
  refine r_Vi X S (hrc_X9_not hn eq_1) gd_X9_230 ⟨rfl, ny_X9_not⟩ ⟨rfl, rfl⟩ ⟨by dsimp only; omega, by dsimp only; omega⟩ (r_recv X S (ly_ok_9 (by decide) hn) rfl rfl) rfl rfl hl.1 (Nat.le_of_ble_eq_true rfl) dX9_both_1 (fun H locs S => ?_)
  refine lv_topi (fun x_2 ex_2 => ?_)
  have h := pz_lt_e h ex_2
  refine lv_istore_n (lv' := [(1, .int x_2), (0, .ref (cx_b G + ly_loc 9 0))]) X.1 X.2.1 dX9_both_4 rfl hl (by decide) rfl (fun ls hl => ?_)
  exact w_X9_both_L5 X hn hrc_X9_atom hrc_X9_term hrc_X9_added hrc_X9_not hrc_X9_both hrc_X9_either N h S (lv_sub hl [1, 0] rfl)
def f_X9_either_L44 (N : Nat) (rc : Nat → mm_T → Option (mm_T × Int32)) (k5 : mm_T → Int32 → Option (mm_T × Int32)) (J : mm_T) (s0 : Int32) : Option (mm_T × Int32) := k5 J s0
set_option maxRecDepth 100000 in
set_option maxHeartbeats 4000000 in
theorem w_X9_either_L44 {l : Launch} {G : cx_T} {p : Program} {e : Env} {s : State} {m : MethodId} {args : Array Value} {below : List Frame} {meth : Method} {c : Code} {N n : Nat} {d : Nat} {rc : Nat → mm_T → Option (mm_T × Int32)} {I : mm_T} (X : cx_ok G p s m args meth c cX9_either 3 RX9 (some .int)) (hn : 144 ≤ n) (hrc_X9_atom : ∀ {I J : mm_T} {z : mm_T × Int32}, 144 ≤ n → rc 0 J = some z → ct_m l G n yX9_atom cX9_atom 2 (some .int) ({ frames := 4 + d, cells := 0, slots := 0, locals := 91 + 40 * d }) [.ref (cx_b G + ly_loc 9 0)] I J (ct_qi G n I z.1 z.2)) (hrc_X9_term : ∀ {I J : mm_T} {z : mm_T × Int32}, 144 ≤ n → rc 1 J = some z → ct_m l G n yX9_term cX9_term 2 (some .int) ({ frames := 4 + d, cells := 0, slots := 0, locals := 91 + 40 * d }) [.ref (cx_b G + ly_loc 9 0)] I J (ct_qi G n I z.1 z.2)) (hrc_X9_added : ∀ {I J : mm_T} {z : mm_T × Int32}, 144 ≤ n → rc 2 J = some z → ct_m l G n yX9_added cX9_added 4 (some .int) ({ frames := 4 + d, cells := 0, slots := 0, locals := 91 + 40 * d }) [.ref (cx_b G + ly_loc 9 0)] I J (ct_qi G n I z.1 z.2)) (hrc_X9_not : ∀ {I J : mm_T} {z : mm_T × Int32}, 144 ≤ n → rc 3 J = some z → ct_m l G n yX9_not cX9_not 4 (some .int) ({ frames := 4 + d, cells := 0, slots := 0, locals := 91 + 40 * d }) [.ref (cx_b G + ly_loc 9 0)] I J (ct_qi G n I z.1 z.2)) (hrc_X9_both : ∀ {I J : mm_T} {z : mm_T × Int32}, 144 ≤ n → rc 4 J = some z → ct_m l G n yX9_both cX9_both 3 (some .int) ({ frames := 4 + d, cells := 0, slots := 0, locals := 91 + 40 * d }) [.ref (cx_b G + ly_loc 9 0)] I J (ct_qi G n I z.1 z.2)) (hrc_X9_either : ∀ {I J : mm_T} {z : mm_T × Int32}, 144 ≤ n → rc 5 J = some z → ct_m l G n yX9_either cX9_either 3 (some .int) ({ frames := 4 + d, cells := 0, slots := 0, locals := 91 + 40 * d }) [.ref (cx_b G + ly_loc 9 0)] I J (ct_qi G n I z.1 z.2)) {k5 : mm_T → Int32 → Option (mm_T × Int32)} {z : mm_T × Int32} (K5 : ∀ {J : mm_T} {a1 : Int32} {H : Heap} {locs : List Loc} {ls : Array Slot}, k5 J a1 = some z → st_ok G n I J s H locs → lv_has ls 3 [(0, .ref (cx_b G + ly_loc 9 0)), (1, .int a1)] → W p l e ({ frames := 4 + (d + 1), cells := 0, slots := 0, locals := 91 + 40 * (d + 1) }) s m args below meth c H locs 0 0 (MQ below (ct_qi G n I z.1 z.2) args s 0 0 (cx_A G)) (F0 m 5 ls [])) {J : mm_T} {s0 : Int32} {H : Heap} {locs : List Loc} {ls : Array Slot} (h : f_X9_either_L44 N rc k5 J s0 = some z) (S : st_ok G n I J s H locs) (hl : lv_has ls 3 [(0, .ref (cx_b G + ly_loc 9 0))]) : W p l e ({ frames := 4 + (d + 1), cells := 0, slots := 0, locals := 91 + 40 * (d + 1) }) s m args below meth c H locs 0 0 (MQ below (ct_qi G n I z.1 z.2) args s 0 0 (cx_A G)) (F0 m 44 ls [.int s0]) := by
  unfold f_X9_either_L44 at h
  refine lv_istore_n (lv' := [(1, .int s0), (0, .ref (cx_b G + ly_loc 9 0))]) X.1 X.2.1 dX9_either_44 rfl hl (by decide) rfl (fun ls hl => ?_)
  refine lv_goto (tgt := 5) X.1 X.2.1 dX9_either_45 (by decide) ?_
  exact K5 h S (lv_sub hl [1, 0] rfl)
def f_X9_either_L39 (N : Nat) (rc : Nat → mm_T → Option (mm_T × Int32)) (k5 : mm_T → Int32 → Option (mm_T × Int32)) (J : mm_T) : Option (mm_T × Int32) := f_X9_either_L44 N rc k5 J (1 : Int32)
set_option maxRecDepth 100000 in
set_option maxHeartbeats 4000000 in
theorem w_X9_either_L39 {l : Launch} {G : cx_T} {p : Program} {e : Env} {s : State} {m : MethodId} {args : Array Value} {below : List Frame} {meth : Method} {c : Code} {N n : Nat} {d : Nat} {rc : Nat → mm_T → Option (mm_T × Int32)} {I : mm_T} (X : cx_ok G p s m args meth c cX9_either 3 RX9 (some .int)) (hn : 144 ≤ n) (hrc_X9_atom : ∀ {I J : mm_T} {z : mm_T × Int32}, 144 ≤ n → rc 0 J = some z → ct_m l G n yX9_atom cX9_atom 2 (some .int) ({ frames := 4 + d, cells := 0, slots := 0, locals := 91 + 40 * d }) [.ref (cx_b G + ly_loc 9 0)] I J (ct_qi G n I z.1 z.2)) (hrc_X9_term : ∀ {I J : mm_T} {z : mm_T × Int32}, 144 ≤ n → rc 1 J = some z → ct_m l G n yX9_term cX9_term 2 (some .int) ({ frames := 4 + d, cells := 0, slots := 0, locals := 91 + 40 * d }) [.ref (cx_b G + ly_loc 9 0)] I J (ct_qi G n I z.1 z.2)) (hrc_X9_added : ∀ {I J : mm_T} {z : mm_T × Int32}, 144 ≤ n → rc 2 J = some z → ct_m l G n yX9_added cX9_added 4 (some .int) ({ frames := 4 + d, cells := 0, slots := 0, locals := 91 + 40 * d }) [.ref (cx_b G + ly_loc 9 0)] I J (ct_qi G n I z.1 z.2)) (hrc_X9_not : ∀ {I J : mm_T} {z : mm_T × Int32}, 144 ≤ n → rc 3 J = some z → ct_m l G n yX9_not cX9_not 4 (some .int) ({ frames := 4 + d, cells := 0, slots := 0, locals := 91 + 40 * d }) [.ref (cx_b G + ly_loc 9 0)] I J (ct_qi G n I z.1 z.2)) (hrc_X9_both : ∀ {I J : mm_T} {z : mm_T × Int32}, 144 ≤ n → rc 4 J = some z → ct_m l G n yX9_both cX9_both 3 (some .int) ({ frames := 4 + d, cells := 0, slots := 0, locals := 91 + 40 * d }) [.ref (cx_b G + ly_loc 9 0)] I J (ct_qi G n I z.1 z.2)) (hrc_X9_either : ∀ {I J : mm_T} {z : mm_T × Int32}, 144 ≤ n → rc 5 J = some z → ct_m l G n yX9_either cX9_either 3 (some .int) ({ frames := 4 + d, cells := 0, slots := 0, locals := 91 + 40 * d }) [.ref (cx_b G + ly_loc 9 0)] I J (ct_qi G n I z.1 z.2)) {k5 : mm_T → Int32 → Option (mm_T × Int32)} {z : mm_T × Int32} (K5 : ∀ {J : mm_T} {a1 : Int32} {H : Heap} {locs : List Loc} {ls : Array Slot}, k5 J a1 = some z → st_ok G n I J s H locs → lv_has ls 3 [(0, .ref (cx_b G + ly_loc 9 0)), (1, .int a1)] → W p l e ({ frames := 4 + (d + 1), cells := 0, slots := 0, locals := 91 + 40 * (d + 1) }) s m args below meth c H locs 0 0 (MQ below (ct_qi G n I z.1 z.2) args s 0 0 (cx_A G)) (F0 m 5 ls [])) {J : mm_T} {H : Heap} {locs : List Loc} {ls : Array Slot} (h : f_X9_either_L39 N rc k5 J = some z) (S : st_ok G n I J s H locs) (hl : lv_has ls 3 [(0, .ref (cx_b G + ly_loc 9 0))]) : W p l e ({ frames := 4 + (d + 1), cells := 0, slots := 0, locals := 91 + 40 * (d + 1) }) s m args below meth c H locs 0 0 (MQ below (ct_qi G n I z.1 z.2) args s 0 0 (cx_A G)) (F0 m 39 ls []) := by
  unfold f_X9_either_L39 at h
  refine lv_iconst (v := 1) X.1 X.2.1 dX9_either_39 (by decide) ?_
  refine lv_goto (tgt := 44) X.1 X.2.1 dX9_either_40 (by decide) ?_
  exact w_X9_either_L44 X hn hrc_X9_atom hrc_X9_term hrc_X9_added hrc_X9_not hrc_X9_both hrc_X9_either K5 h S (lv_sub hl [0] rfl)
def f_X9_either_L5 (N : Nat) (rc : Nat → mm_T → Option (mm_T × Int32)) : Nat → mm_T → Int32 → Option (mm_T × Int32)
  | 0, _, _ => none
  | cnt + 1, J, a1 => pz_bd (f_X9_isWord N J (111 : Int32) (114 : Int32) (0 : Int32) (0 : Int32) (0 : Int32) (0 : Int32) (0 : Int32) (0 : Int32)) fun q_3 => if q_3 = 0 then (some (J, a1)) else (pz_bd (f_X9_next N J) fun q_5 => pz_bd (rc 4 q_5) fun q_6 => pz_lt q_6.2 fun x_7 => if a1 = 0 then (if x_7 = 0 then (f_X9_either_L44 N rc (f_X9_either_L5 N rc cnt) q_6.1 (0 : Int32)) else (f_X9_either_L39 N rc (f_X9_either_L5 N rc cnt) q_6.1)) else (f_X9_either_L39 N rc (f_X9_either_L5 N rc cnt) q_6.1))
set_option maxRecDepth 100000 in
set_option maxHeartbeats 4000000 in
theorem w_X9_either_L5 {l : Launch} {G : cx_T} {p : Program} {e : Env} {s : State} {m : MethodId} {args : Array Value} {below : List Frame} {meth : Method} {c : Code} {N n : Nat} {d : Nat} {rc : Nat → mm_T → Option (mm_T × Int32)} {I : mm_T} (X : cx_ok G p s m args meth c cX9_either 3 RX9 (some .int)) (hn : 144 ≤ n) (hrc_X9_atom : ∀ {I J : mm_T} {z : mm_T × Int32}, 144 ≤ n → rc 0 J = some z → ct_m l G n yX9_atom cX9_atom 2 (some .int) ({ frames := 4 + d, cells := 0, slots := 0, locals := 91 + 40 * d }) [.ref (cx_b G + ly_loc 9 0)] I J (ct_qi G n I z.1 z.2)) (hrc_X9_term : ∀ {I J : mm_T} {z : mm_T × Int32}, 144 ≤ n → rc 1 J = some z → ct_m l G n yX9_term cX9_term 2 (some .int) ({ frames := 4 + d, cells := 0, slots := 0, locals := 91 + 40 * d }) [.ref (cx_b G + ly_loc 9 0)] I J (ct_qi G n I z.1 z.2)) (hrc_X9_added : ∀ {I J : mm_T} {z : mm_T × Int32}, 144 ≤ n → rc 2 J = some z → ct_m l G n yX9_added cX9_added 4 (some .int) ({ frames := 4 + d, cells := 0, slots := 0, locals := 91 + 40 * d }) [.ref (cx_b G + ly_loc 9 0)] I J (ct_qi G n I z.1 z.2)) (hrc_X9_not : ∀ {I J : mm_T} {z : mm_T × Int32}, 144 ≤ n → rc 3 J = some z → ct_m l G n yX9_not cX9_not 4 (some .int) ({ frames := 4 + d, cells := 0, slots := 0, locals := 91 + 40 * d }) [.ref (cx_b G + ly_loc 9 0)] I J (ct_qi G n I z.1 z.2)) (hrc_X9_both : ∀ {I J : mm_T} {z : mm_T × Int32}, 144 ≤ n → rc 4 J = some z → ct_m l G n yX9_both cX9_both 3 (some .int) ({ frames := 4 + d, cells := 0, slots := 0, locals := 91 + 40 * d }) [.ref (cx_b G + ly_loc 9 0)] I J (ct_qi G n I z.1 z.2)) (hrc_X9_either : ∀ {I J : mm_T} {z : mm_T × Int32}, 144 ≤ n → rc 5 J = some z → ct_m l G n yX9_either cX9_either 3 (some .int) ({ frames := 4 + d, cells := 0, slots := 0, locals := 91 + 40 * d }) [.ref (cx_b G + ly_loc 9 0)] I J (ct_qi G n I z.1 z.2)) {z : mm_T × Int32} : ∀ (cnt : Nat) {J : mm_T} {a1 : Int32} {H : Heap} {locs : List Loc} {ls : Array Slot} , f_X9_either_L5 N rc cnt J a1 = some z → st_ok G n I J s H locs → lv_has ls 3 [(0, .ref (cx_b G + ly_loc 9 0)), (1, .int a1)] → W p l e ({ frames := 4 + (d + 1), cells := 0, slots := 0, locals := 91 + 40 * (d + 1) }) s m args below meth c H locs 0 0 (MQ below (ct_qi G n I z.1 z.2) args s 0 0 (cx_A G)) (F0 m 5 ls []) := by
  intro cnt
  induction cnt with
  | zero =>
    intro J a1 H locs ls h
    rw [f_X9_either_L5] at h
    cases h
  | succ cnt ih =>
    intro J a1 H locs ls h S hl
    rw [f_X9_either_L5] at h
    refine lv_aload_n X.1 X.2.1 dX9_either_5 rfl (lv_at hl 0 rfl) ?_
    refine lv_bipush (v := 111) X.1 X.2.1 dX9_either_6 (by decide) ?_
    refine lv_bipush (v := 114) X.1 X.2.1 dX9_either_8 (by decide) ?_
    refine lv_iconst (v := 0) X.1 X.2.1 dX9_either_10 (by decide) ?_
    refine lv_iconst (v := 0) X.1 X.2.1 dX9_either_11 (by decide) ?_
    refine lv_iconst (v := 0) X.1 X.2.1 dX9_either_12 (by decide) ?_
    refine lv_iconst (v := 0) X.1 X.2.1 dX9_either_13 (by decide) ?_
    refine lv_iconst (v := 0) X.1 X.2.1 dX9_either_14 (by decide) ?_
    refine lv_iconst (v := 0) X.1 X.2.1 dX9_either_15 (by decide) ?_
    obtain ⟨q_3, eq_3, h⟩ := pz_bd_e h
    refine r_Vi X S (c_X9_isWord hn eq_3) gd_X9_186 ⟨rfl, ny_X9_isWord⟩ ⟨rfl, rfl⟩ ⟨by dsimp only; omega, by dsimp only; omega⟩ (r_recv X S (ly_ok_9 (by decide) hn) rfl rfl) rfl rfl hl.1 (Nat.le_of_ble_eq_true rfl) dX9_either_16 (fun H locs S => ?_)
    refine lv_if_eq (tgt := 48) X.1 X.2.1 dX9_either_19 (by decide) (fun c_4 => ?_) (fun c_4 => ?_)
    · have h := pz_t c_4 h
      refine lv_iload_n X.1 X.2.1 dX9_either_48 rfl (lv_at hl 1 rfl) ?_
      cases h
      exact r_iret X S dX9_either_49
    have h := pz_f c_4 h
    refine lv_aload_n X.1 X.2.1 dX9_either_22 rfl (lv_at hl 0 rfl) ?_
    obtain ⟨q_5, eq_5, h⟩ := pz_bd_e h
    refine r_Vv X S (c_X9_next hn eq_5) gd_X9_183 ⟨rfl, ny_X9_next⟩ ⟨rfl, rfl⟩ ⟨by dsimp only; omega, by dsimp only; omega⟩ (r_recv X S (ly_ok_9 (by decide) hn) rfl rfl) rfl rfl hl.1 (Nat.le_of_ble_eq_true rfl) dX9_either_23 (fun H locs S => ?_)
    refine lv_aload_n X.1 X.2.1 dX9_either_26 rfl (lv_at hl 0 rfl) ?_
    obtain ⟨q_6, eq_6, h⟩ := pz_bd_e h
    refine r_Vi X S (hrc_X9_both hn eq_6) gd_X9_238 ⟨rfl, ny_X9_both⟩ ⟨rfl, rfl⟩ ⟨by dsimp only; omega, by dsimp only; omega⟩ (r_recv X S (ly_ok_9 (by decide) hn) rfl rfl) rfl rfl hl.1 (Nat.le_of_ble_eq_true rfl) dX9_either_27 (fun H locs S => ?_)
    refine lv_topi (fun x_7 ex_7 => ?_)
    have h := pz_lt_e h ex_7
    refine lv_istore_n (lv' := [(2, .int x_7), (0, .ref (cx_b G + ly_loc 9 0)), (1, .int a1)]) X.1 X.2.1 dX9_either_30 rfl hl (by decide) rfl (fun ls hl => ?_)
    refine lv_iload_n X.1 X.2.1 dX9_either_31 rfl (lv_at hl 2 rfl) ?_
    refine lv_if_ne (tgt := 39) X.1 X.2.1 dX9_either_32 (by decide) (fun c_8 => ?_) (fun c_8 => ?_)
    · have h := pz_f c_8 h
      exact w_X9_either_L39 X hn hrc_X9_atom hrc_X9_term hrc_X9_added hrc_X9_not hrc_X9_both hrc_X9_either ih h S (lv_sub hl [1] rfl)
    have h := pz_t c_8 h
    refine lv_iload_n X.1 X.2.1 dX9_either_35 rfl (lv_at hl 0 rfl) ?_
    refine lv_if_eq (tgt := 43) X.1 X.2.1 dX9_either_36 (by decide) (fun c_9 => ?_) (fun c_9 => ?_)
    · have h := pz_t c_9 h
      refine lv_iconst (v := 0) X.1 X.2.1 dX9_either_43 (by decide) ?_
      exact w_X9_either_L44 X hn hrc_X9_atom hrc_X9_term hrc_X9_added hrc_X9_not hrc_X9_both hrc_X9_either ih h S (lv_sub hl [1] rfl)
    have h := pz_f c_9 h
    exact w_X9_either_L39 X hn hrc_X9_atom hrc_X9_term hrc_X9_added hrc_X9_not hrc_X9_both hrc_X9_either ih h S (lv_sub hl [1] rfl)
def f_X9_either (N : Nat) (rc : Nat → mm_T → Option (mm_T × Int32)) (J : mm_T) : Option (mm_T × Int32) := pz_bd (rc 4 J) fun q_1 => pz_lt q_1.2 fun x_2 => f_X9_either_L5 N rc N q_1.1 x_2
set_option maxRecDepth 100000 in
set_option maxHeartbeats 4000000 in
theorem c_X9_either {l : Launch} {G : cx_T} {N n : Nat} {d : Nat} {rc : Nat → mm_T → Option (mm_T × Int32)} {I J : mm_T} (hrc_X9_atom : ∀ {I J : mm_T} {z : mm_T × Int32}, 144 ≤ n → rc 0 J = some z → ct_m l G n yX9_atom cX9_atom 2 (some .int) ({ frames := 4 + d, cells := 0, slots := 0, locals := 91 + 40 * d }) [.ref (cx_b G + ly_loc 9 0)] I J (ct_qi G n I z.1 z.2)) (hrc_X9_term : ∀ {I J : mm_T} {z : mm_T × Int32}, 144 ≤ n → rc 1 J = some z → ct_m l G n yX9_term cX9_term 2 (some .int) ({ frames := 4 + d, cells := 0, slots := 0, locals := 91 + 40 * d }) [.ref (cx_b G + ly_loc 9 0)] I J (ct_qi G n I z.1 z.2)) (hrc_X9_added : ∀ {I J : mm_T} {z : mm_T × Int32}, 144 ≤ n → rc 2 J = some z → ct_m l G n yX9_added cX9_added 4 (some .int) ({ frames := 4 + d, cells := 0, slots := 0, locals := 91 + 40 * d }) [.ref (cx_b G + ly_loc 9 0)] I J (ct_qi G n I z.1 z.2)) (hrc_X9_not : ∀ {I J : mm_T} {z : mm_T × Int32}, 144 ≤ n → rc 3 J = some z → ct_m l G n yX9_not cX9_not 4 (some .int) ({ frames := 4 + d, cells := 0, slots := 0, locals := 91 + 40 * d }) [.ref (cx_b G + ly_loc 9 0)] I J (ct_qi G n I z.1 z.2)) (hrc_X9_both : ∀ {I J : mm_T} {z : mm_T × Int32}, 144 ≤ n → rc 4 J = some z → ct_m l G n yX9_both cX9_both 3 (some .int) ({ frames := 4 + d, cells := 0, slots := 0, locals := 91 + 40 * d }) [.ref (cx_b G + ly_loc 9 0)] I J (ct_qi G n I z.1 z.2)) (hrc_X9_either : ∀ {I J : mm_T} {z : mm_T × Int32}, 144 ≤ n → rc 5 J = some z → ct_m l G n yX9_either cX9_either 3 (some .int) ({ frames := 4 + d, cells := 0, slots := 0, locals := 91 + 40 * d }) [.ref (cx_b G + ly_loc 9 0)] I J (ct_qi G n I z.1 z.2)) (hn : 144 ≤ n) {z : mm_T × Int32} (h : f_X9_either N rc J = some z) : ct_m l G n yX9_either cX9_either 3 (some .int) ({ frames := 4 + (d + 1), cells := 0, slots := 0, locals := 91 + 40 * (d + 1) }) [.ref (cx_b G + ly_loc 9 0)] I J (ct_qi G n I z.1 z.2) := by
  refine ct_en (by decide) (Nat.le_of_ble_eq_true rfl) ?_
  intro p e s m args below meth c ls X S hl
  have X : cx_ok G p s m args meth c cX9_either 3 RX9 (some .int) := X
  have hl : lv_has ls 3 [(0, .ref (cx_b G + ly_loc 9 0))] := hl
  unfold f_X9_either at h
  refine lv_aload_n X.1 X.2.1 dX9_either_0 rfl (lv_at hl 0 rfl) ?_
  obtain ⟨q_1, eq_1, h⟩ := pz_bd_e h
  refine r_Vi X S (hrc_X9_both hn eq_1) gd_X9_238 ⟨rfl, ny_X9_both⟩ ⟨rfl, rfl⟩ ⟨by dsimp only; omega, by dsimp only; omega⟩ (r_recv X S (ly_ok_9 (by decide) hn) rfl rfl) rfl rfl hl.1 (Nat.le_of_ble_eq_true rfl) dX9_either_1 (fun H locs S => ?_)
  refine lv_topi (fun x_2 ex_2 => ?_)
  have h := pz_lt_e h ex_2
  refine lv_istore_n (lv' := [(1, .int x_2), (0, .ref (cx_b G + ly_loc 9 0))]) X.1 X.2.1 dX9_either_4 rfl hl (by decide) rfl (fun ls hl => ?_)
  exact w_X9_either_L5 X hn hrc_X9_atom hrc_X9_term hrc_X9_added hrc_X9_not hrc_X9_both hrc_X9_either N h S (lv_sub hl [1, 0] rfl)
def f_M9e (N : Nat) : Nat → Nat → mm_T → Option (mm_T × Int32)
  | 0, _, _ => none
  | d + 1, sel, J => if sel = 0 then f_X9_atom N (f_M9e N d) J  else if sel = 1 then f_X9_term N (f_M9e N d) J  else if sel = 2 then f_X9_added N (f_M9e N d) J  else if sel = 3 then f_X9_not N (f_M9e N d) J  else if sel = 4 then f_X9_both N (f_M9e N d) J  else f_X9_either N (f_M9e N d) J 
set_option maxRecDepth 100000 in
set_option maxHeartbeats 4000000 in
theorem ca_M9e {l : Launch} {G : cx_T} {N n : Nat} : ∀ (d : Nat), (∀ {I J : mm_T} {z : mm_T × Int32}, 144 ≤ n → f_M9e N d 0 J = some z → ct_m l G n yX9_atom cX9_atom 2 (some .int) ({ frames := 4 + d, cells := 0, slots := 0, locals := 91 + 40 * d }) [.ref (cx_b G + ly_loc 9 0)] I J (ct_qi G n I z.1 z.2)) ∧ (∀ {I J : mm_T} {z : mm_T × Int32}, 144 ≤ n → f_M9e N d 1 J = some z → ct_m l G n yX9_term cX9_term 2 (some .int) ({ frames := 4 + d, cells := 0, slots := 0, locals := 91 + 40 * d }) [.ref (cx_b G + ly_loc 9 0)] I J (ct_qi G n I z.1 z.2)) ∧ (∀ {I J : mm_T} {z : mm_T × Int32}, 144 ≤ n → f_M9e N d 2 J = some z → ct_m l G n yX9_added cX9_added 4 (some .int) ({ frames := 4 + d, cells := 0, slots := 0, locals := 91 + 40 * d }) [.ref (cx_b G + ly_loc 9 0)] I J (ct_qi G n I z.1 z.2)) ∧ (∀ {I J : mm_T} {z : mm_T × Int32}, 144 ≤ n → f_M9e N d 3 J = some z → ct_m l G n yX9_not cX9_not 4 (some .int) ({ frames := 4 + d, cells := 0, slots := 0, locals := 91 + 40 * d }) [.ref (cx_b G + ly_loc 9 0)] I J (ct_qi G n I z.1 z.2)) ∧ (∀ {I J : mm_T} {z : mm_T × Int32}, 144 ≤ n → f_M9e N d 4 J = some z → ct_m l G n yX9_both cX9_both 3 (some .int) ({ frames := 4 + d, cells := 0, slots := 0, locals := 91 + 40 * d }) [.ref (cx_b G + ly_loc 9 0)] I J (ct_qi G n I z.1 z.2)) ∧ (∀ {I J : mm_T} {z : mm_T × Int32}, 144 ≤ n → f_M9e N d 5 J = some z → ct_m l G n yX9_either cX9_either 3 (some .int) ({ frames := 4 + d, cells := 0, slots := 0, locals := 91 + 40 * d }) [.ref (cx_b G + ly_loc 9 0)] I J (ct_qi G n I z.1 z.2)) := by
  intro d
  induction d with
  | zero => exact ⟨(by intros; rename_i h; rw [f_M9e] at h; cases h), (by intros; rename_i h; rw [f_M9e] at h; cases h), (by intros; rename_i h; rw [f_M9e] at h; cases h), (by intros; rename_i h; rw [f_M9e] at h; cases h), (by intros; rename_i h; rw [f_M9e] at h; cases h), (by intros; rename_i h; rw [f_M9e] at h; cases h)⟩
  | succ d ih =>
    exact ⟨(by intros; rename_i h; rw [f_M9e] at h; rw [if_pos rfl] at h; exact c_X9_atom (ih.1) (ih.2.1) (ih.2.2.1) (ih.2.2.2.1) (ih.2.2.2.2.1) (ih.2.2.2.2.2) (by assumption) h), (by intros; rename_i h; rw [f_M9e] at h; rw [if_neg (show ¬ ((1 : Nat) = 0) by decide)] at h; rw [if_pos rfl] at h; exact c_X9_term (ih.1) (ih.2.1) (ih.2.2.1) (ih.2.2.2.1) (ih.2.2.2.2.1) (ih.2.2.2.2.2) (by assumption) h), (by intros; rename_i h; rw [f_M9e] at h; rw [if_neg (show ¬ ((2 : Nat) = 0) by decide)] at h; rw [if_neg (show ¬ ((2 : Nat) = 1) by decide)] at h; rw [if_pos rfl] at h; exact c_X9_added (ih.1) (ih.2.1) (ih.2.2.1) (ih.2.2.2.1) (ih.2.2.2.2.1) (ih.2.2.2.2.2) (by assumption) h), (by intros; rename_i h; rw [f_M9e] at h; rw [if_neg (show ¬ ((3 : Nat) = 0) by decide)] at h; rw [if_neg (show ¬ ((3 : Nat) = 1) by decide)] at h; rw [if_neg (show ¬ ((3 : Nat) = 2) by decide)] at h; rw [if_pos rfl] at h; exact c_X9_not (ih.1) (ih.2.1) (ih.2.2.1) (ih.2.2.2.1) (ih.2.2.2.2.1) (ih.2.2.2.2.2) (by assumption) h), (by intros; rename_i h; rw [f_M9e] at h; rw [if_neg (show ¬ ((4 : Nat) = 0) by decide)] at h; rw [if_neg (show ¬ ((4 : Nat) = 1) by decide)] at h; rw [if_neg (show ¬ ((4 : Nat) = 2) by decide)] at h; rw [if_neg (show ¬ ((4 : Nat) = 3) by decide)] at h; rw [if_pos rfl] at h; exact c_X9_both (ih.1) (ih.2.1) (ih.2.2.1) (ih.2.2.2.1) (ih.2.2.2.2.1) (ih.2.2.2.2.2) (by assumption) h), (by intros; rename_i h; rw [f_M9e] at h; rw [if_neg (show ¬ ((5 : Nat) = 0) by decide)] at h; rw [if_neg (show ¬ ((5 : Nat) = 1) by decide)] at h; rw [if_neg (show ¬ ((5 : Nat) = 2) by decide)] at h; rw [if_neg (show ¬ ((5 : Nat) = 3) by decide)] at h; rw [if_neg (show ¬ ((5 : Nat) = 4) by decide)] at h; exact c_X9_either (ih.1) (ih.2.1) (ih.2.2.1) (ih.2.2.2.1) (ih.2.2.2.2.1) (ih.2.2.2.2.2) (by assumption) h)⟩
theorem cs_X9_atom {l : Launch} {G : cx_T} {N n : Nat} {I J : mm_T} {z : mm_T × Int32} (hn : 144 ≤ n) (h : f_M9e N 60 0 J = some z) : ct_m l G n yX9_atom cX9_atom 2 (some .int) ({ frames := 64, cells := 0, slots := 0, locals := 2491 }) [.ref (cx_b G + ly_loc 9 0)] I J (ct_qi G n I z.1 z.2) := (ca_M9e 60).1 hn h
theorem cs_X9_term {l : Launch} {G : cx_T} {N n : Nat} {I J : mm_T} {z : mm_T × Int32} (hn : 144 ≤ n) (h : f_M9e N 60 1 J = some z) : ct_m l G n yX9_term cX9_term 2 (some .int) ({ frames := 64, cells := 0, slots := 0, locals := 2491 }) [.ref (cx_b G + ly_loc 9 0)] I J (ct_qi G n I z.1 z.2) := (ca_M9e 60).2.1 hn h
theorem cs_X9_added {l : Launch} {G : cx_T} {N n : Nat} {I J : mm_T} {z : mm_T × Int32} (hn : 144 ≤ n) (h : f_M9e N 60 2 J = some z) : ct_m l G n yX9_added cX9_added 4 (some .int) ({ frames := 64, cells := 0, slots := 0, locals := 2491 }) [.ref (cx_b G + ly_loc 9 0)] I J (ct_qi G n I z.1 z.2) := (ca_M9e 60).2.2.1 hn h
theorem cs_X9_not {l : Launch} {G : cx_T} {N n : Nat} {I J : mm_T} {z : mm_T × Int32} (hn : 144 ≤ n) (h : f_M9e N 60 3 J = some z) : ct_m l G n yX9_not cX9_not 4 (some .int) ({ frames := 64, cells := 0, slots := 0, locals := 2491 }) [.ref (cx_b G + ly_loc 9 0)] I J (ct_qi G n I z.1 z.2) := (ca_M9e 60).2.2.2.1 hn h
theorem cs_X9_both {l : Launch} {G : cx_T} {N n : Nat} {I J : mm_T} {z : mm_T × Int32} (hn : 144 ≤ n) (h : f_M9e N 60 4 J = some z) : ct_m l G n yX9_both cX9_both 3 (some .int) ({ frames := 64, cells := 0, slots := 0, locals := 2491 }) [.ref (cx_b G + ly_loc 9 0)] I J (ct_qi G n I z.1 z.2) := (ca_M9e 60).2.2.2.2.1 hn h
theorem cs_X9_either {l : Launch} {G : cx_T} {N n : Nat} {I J : mm_T} {z : mm_T × Int32} (hn : 144 ≤ n) (h : f_M9e N 60 5 J = some z) : ct_m l G n yX9_either cX9_either 3 (some .int) ({ frames := 64, cells := 0, slots := 0, locals := 2491 }) [.ref (cx_b G + ly_loc 9 0)] I J (ct_qi G n I z.1 z.2) := (ca_M9e 60).2.2.2.2.2 hn h
def f_X9_part_L34 (N : Nat) (p1 : Int32) (J : mm_T) (s0 : Int32) : Option (mm_T × Int32) := pz_bd (f_X9_isSign N J (59 : Int32)) fun q_7 => if q_7 = 0 then (pz_bd (f_X9_fail N J) fun q_11 => if (q_11 9 0 30) = 0 then (pz_bd (f_X9_next N q_11) fun q_13 => some (q_13, s0)) else (some (q_11, s0))) else (if (J 9 0 30) = 0 then (pz_bd (f_X9_next N J) fun q_10 => some (q_10, s0)) else (some (J, s0)))
set_option maxRecDepth 100000 in
set_option maxHeartbeats 4000000 in
theorem w_X9_part_L34 {l : Launch} {G : cx_T} {p : Program} {e : Env} {s : State} {m : MethodId} {args : Array Value} {below : List Frame} {meth : Method} {c : Code} {N n : Nat} {I : mm_T} {p1 : Int32} (X : cx_ok G p s m args meth c cX9_part 3 RX9 (some .int)) (hn : 144 ≤ n) {z : mm_T × Int32} {J : mm_T} {s0 : Int32} {H : Heap} {locs : List Loc} {ls : Array Slot} (h : f_X9_part_L34 N p1 J s0 = some z) (S : st_ok G n I J s H locs) (hl : lv_has ls 3 [(0, .ref (cx_b G + ly_loc 9 0))]) : W p l e ({ frames := 65, cells := 0, slots := 0, locals := 2513 }) s m args below meth c H locs 0 0 (MQ below (ct_qi G n I z.1 z.2) args s 0 0 (cx_A G)) (F0 m 34 ls [.int s0]) := by
  unfold f_X9_part_L34 at h
  refine lv_istore_n (lv' := [(2, .int s0), (0, .ref (cx_b G + ly_loc 9 0))]) X.1 X.2.1 dX9_part_34 rfl hl (by decide) rfl (fun ls hl => ?_)
  refine lv_aload_n X.1 X.2.1 dX9_part_35 rfl (lv_at hl 1 rfl) ?_
  refine lv_bipush (v := 59) X.1 X.2.1 dX9_part_36 (by decide) ?_
  obtain ⟨q_7, eq_7, h⟩ := pz_bd_e h
  refine r_Vi X S (c_X9_isSign hn eq_7) gd_X9_208 ⟨rfl, ny_X9_isSign⟩ ⟨rfl, rfl⟩ ⟨Nat.le_of_ble_eq_true rfl, Nat.le_of_ble_eq_true rfl⟩ (r_recv X S (ly_ok_9 (by decide) hn) rfl rfl) rfl rfl hl.1 (Nat.le_of_ble_eq_true rfl) dX9_part_38 (fun H locs S => ?_)
  refine lv_if_ne (tgt := 48) X.1 X.2.1 dX9_part_41 (by decide) (fun c_8 => ?_) (fun c_8 => ?_)
  · have h := pz_f c_8 h
    refine lv_aload_n X.1 X.2.1 dX9_part_48 rfl (lv_at hl 1 rfl) ?_
    refine gf_X9_166 X S hn (by decide) dX9_part_49 ?_
    refine lv_if_ne (tgt := 59) X.1 X.2.1 dX9_part_52 (by decide) (fun c_9 => ?_) (fun c_9 => ?_)
    · have h := pz_f c_9 h
      refine lv_iload_n X.1 X.2.1 dX9_part_59 rfl (lv_at hl 0 rfl) ?_
      cases h
      exact r_iret X S dX9_part_60
    have h := pz_t c_9 h
    refine lv_aload_n X.1 X.2.1 dX9_part_55 rfl (lv_at hl 1 rfl) ?_
    obtain ⟨q_10, eq_10, h⟩ := pz_bd_e h
    refine r_Vv X S (c_X9_next hn eq_10) gd_X9_183 ⟨rfl, ny_X9_next⟩ ⟨rfl, rfl⟩ ⟨Nat.le_of_ble_eq_true rfl, Nat.le_of_ble_eq_true rfl⟩ (r_recv X S (ly_ok_9 (by decide) hn) rfl rfl) rfl rfl hl.1 (Nat.le_of_ble_eq_true rfl) dX9_part_56 (fun H locs S => ?_)
    refine lv_iload_n X.1 X.2.1 dX9_part_59 rfl (lv_at hl 0 rfl) ?_
    cases h
    exact r_iret X S dX9_part_60
  have h := pz_t c_8 h
  refine lv_aload_n X.1 X.2.1 dX9_part_44 rfl (lv_at hl 1 rfl) ?_
  obtain ⟨q_11, eq_11, h⟩ := pz_bd_e h
  refine r_Vv X S (c_X9_fail hn eq_11) gd_X9_180 ⟨rfl, ny_X9_fail⟩ ⟨rfl, rfl⟩ ⟨Nat.le_of_ble_eq_true rfl, Nat.le_of_ble_eq_true rfl⟩ (r_recv X S (ly_ok_9 (by decide) hn) rfl rfl) rfl rfl hl.1 (Nat.le_of_ble_eq_true rfl) dX9_part_45 (fun H locs S => ?_)
  refine lv_aload_n X.1 X.2.1 dX9_part_48 rfl (lv_at hl 1 rfl) ?_
  refine gf_X9_166 X S hn (by decide) dX9_part_49 ?_
  refine lv_if_ne (tgt := 59) X.1 X.2.1 dX9_part_52 (by decide) (fun c_12 => ?_) (fun c_12 => ?_)
  · have h := pz_f c_12 h
    refine lv_iload_n X.1 X.2.1 dX9_part_59 rfl (lv_at hl 0 rfl) ?_
    cases h
    exact r_iret X S dX9_part_60
  have h := pz_t c_12 h
  refine lv_aload_n X.1 X.2.1 dX9_part_55 rfl (lv_at hl 1 rfl) ?_
  obtain ⟨q_13, eq_13, h⟩ := pz_bd_e h
  refine r_Vv X S (c_X9_next hn eq_13) gd_X9_183 ⟨rfl, ny_X9_next⟩ ⟨rfl, rfl⟩ ⟨Nat.le_of_ble_eq_true rfl, Nat.le_of_ble_eq_true rfl⟩ (r_recv X S (ly_ok_9 (by decide) hn) rfl rfl) rfl rfl hl.1 (Nat.le_of_ble_eq_true rfl) dX9_part_56 (fun H locs S => ?_)
  refine lv_iload_n X.1 X.2.1 dX9_part_59 rfl (lv_at hl 0 rfl) ?_
  cases h
  exact r_iret X S dX9_part_60
def f_X9_part_L19 (N : Nat) (p1 : Int32) (J : mm_T) : Option (mm_T × Int32) := if (J 9 0 30) = 0 then (pz_bd (f_M9e N 60 5 J) fun q_6 => f_X9_part_L34 N p1 q_6.1 q_6.2) else (f_X9_part_L34 N p1 J (0 : Int32))
set_option maxRecDepth 100000 in
set_option maxHeartbeats 4000000 in
theorem w_X9_part_L19 {l : Launch} {G : cx_T} {p : Program} {e : Env} {s : State} {m : MethodId} {args : Array Value} {below : List Frame} {meth : Method} {c : Code} {N n : Nat} {I : mm_T} {p1 : Int32} (X : cx_ok G p s m args meth c cX9_part 3 RX9 (some .int)) (hn : 144 ≤ n) {z : mm_T × Int32} {J : mm_T} {H : Heap} {locs : List Loc} {ls : Array Slot} (h : f_X9_part_L19 N p1 J = some z) (S : st_ok G n I J s H locs) (hl : lv_has ls 3 [(0, .ref (cx_b G + ly_loc 9 0))]) : W p l e ({ frames := 65, cells := 0, slots := 0, locals := 2513 }) s m args below meth c H locs 0 0 (MQ below (ct_qi G n I z.1 z.2) args s 0 0 (cx_A G)) (F0 m 19 ls []) := by
  unfold f_X9_part_L19 at h
  refine lv_aload_n X.1 X.2.1 dX9_part_19 rfl (lv_at hl 0 rfl) ?_
  refine gf_X9_166 X S hn (by decide) dX9_part_20 ?_
  refine lv_if_eq (tgt := 30) X.1 X.2.1 dX9_part_23 (by decide) (fun c_5 => ?_) (fun c_5 => ?_)
  · have h := pz_t c_5 h
    refine lv_aload_n X.1 X.2.1 dX9_part_30 rfl (lv_at hl 0 rfl) ?_
    obtain ⟨q_6, eq_6, h⟩ := pz_bd_e h
    refine r_Vi X S (cs_X9_either hn eq_6) gd_X9_219 ⟨rfl, ny_X9_either⟩ ⟨rfl, rfl⟩ ⟨Nat.le_of_ble_eq_true rfl, Nat.le_of_ble_eq_true rfl⟩ (r_recv X S (ly_ok_9 (by decide) hn) rfl rfl) rfl rfl hl.1 (Nat.le_of_ble_eq_true rfl) dX9_part_31 (fun H locs S => ?_)
    exact w_X9_part_L34 X hn h S (lv_sub hl [0] rfl)
  have h := pz_f c_5 h
  refine lv_iconst (v := 0) X.1 X.2.1 dX9_part_26 (by decide) ?_
  refine lv_goto (tgt := 34) X.1 X.2.1 dX9_part_27 (by decide) ?_
  exact w_X9_part_L34 X hn h S (lv_sub hl [0] rfl)
def f_X9_part_L8 (N : Nat) (p1 : Int32) (J : mm_T) : Option (mm_T × Int32) := if (J 9 0 30) = 0 then (pz_bd (f_X9_next N J) fun q_4 => f_X9_part_L19 N p1 q_4) else (f_X9_part_L19 N p1 J)
set_option maxRecDepth 100000 in
set_option maxHeartbeats 4000000 in
theorem w_X9_part_L8 {l : Launch} {G : cx_T} {p : Program} {e : Env} {s : State} {m : MethodId} {args : Array Value} {below : List Frame} {meth : Method} {c : Code} {N n : Nat} {I : mm_T} {p1 : Int32} (X : cx_ok G p s m args meth c cX9_part 3 RX9 (some .int)) (hn : 144 ≤ n) {z : mm_T × Int32} {J : mm_T} {H : Heap} {locs : List Loc} {ls : Array Slot} (h : f_X9_part_L8 N p1 J = some z) (S : st_ok G n I J s H locs) (hl : lv_has ls 3 [(0, .ref (cx_b G + ly_loc 9 0))]) : W p l e ({ frames := 65, cells := 0, slots := 0, locals := 2513 }) s m args below meth c H locs 0 0 (MQ below (ct_qi G n I z.1 z.2) args s 0 0 (cx_A G)) (F0 m 8 ls []) := by
  unfold f_X9_part_L8 at h
  refine lv_aload_n X.1 X.2.1 dX9_part_8 rfl (lv_at hl 0 rfl) ?_
  refine gf_X9_166 X S hn (by decide) dX9_part_9 ?_
  refine lv_if_ne (tgt := 19) X.1 X.2.1 dX9_part_12 (by decide) (fun c_3 => ?_) (fun c_3 => ?_)
  · have h := pz_f c_3 h
    exact w_X9_part_L19 X hn h S (lv_sub hl [0] rfl)
  have h := pz_t c_3 h
  refine lv_aload_n X.1 X.2.1 dX9_part_15 rfl (lv_at hl 0 rfl) ?_
  obtain ⟨q_4, eq_4, h⟩ := pz_bd_e h
  refine r_Vv X S (c_X9_next hn eq_4) gd_X9_183 ⟨rfl, ny_X9_next⟩ ⟨rfl, rfl⟩ ⟨Nat.le_of_ble_eq_true rfl, Nat.le_of_ble_eq_true rfl⟩ (r_recv X S (ly_ok_9 (by decide) hn) rfl rfl) rfl rfl hl.1 (Nat.le_of_ble_eq_true rfl) dX9_part_16 (fun H locs S => ?_)
  exact w_X9_part_L19 X hn h S (lv_sub hl [0] rfl)
def f_X9_part (N : Nat) (J : mm_T) (p1 : Int32) : Option (mm_T × Int32) := if p1 = 0 then (pz_bd (f_X9_fail N J) fun q_2 => f_X9_part_L8 N p1 q_2) else (f_X9_part_L8 N p1 J)
set_option maxRecDepth 100000 in
set_option maxHeartbeats 4000000 in
theorem c_X9_part {l : Launch} {G : cx_T} {N n : Nat} {I J : mm_T} {p1 : Int32} (hn : 144 ≤ n) {z : mm_T × Int32} (h : f_X9_part N J p1 = some z) : ct_m l G n yX9_part cX9_part 3 (some .int) ({ frames := 65, cells := 0, slots := 0, locals := 2513 }) [.ref (cx_b G + ly_loc 9 0), .int p1] I J (ct_qi G n I z.1 z.2) := by
  refine ct_en (by decide) (Nat.le_of_ble_eq_true rfl) ?_
  intro p e s m args below meth c ls X S hl
  have X : cx_ok G p s m args meth c cX9_part 3 RX9 (some .int) := X
  have hl : lv_has ls 3 [(0, .ref (cx_b G + ly_loc 9 0)), (1, .int p1)] := hl
  unfold f_X9_part at h
  refine lv_iload_n X.1 X.2.1 dX9_part_0 rfl (lv_at hl 1 rfl) ?_
  refine lv_if_ne (tgt := 8) X.1 X.2.1 dX9_part_1 (by decide) (fun c_1 => ?_) (fun c_1 => ?_)
  · have h := pz_f c_1 h
    exact w_X9_part_L8 X hn h S (lv_sub hl [0] rfl)
  have h := pz_t c_1 h
  refine lv_aload_n X.1 X.2.1 dX9_part_4 rfl (lv_at hl 0 rfl) ?_
  obtain ⟨q_2, eq_2, h⟩ := pz_bd_e h
  refine r_Vv X S (c_X9_fail hn eq_2) gd_X9_180 ⟨rfl, ny_X9_fail⟩ ⟨rfl, rfl⟩ ⟨Nat.le_of_ble_eq_true rfl, Nat.le_of_ble_eq_true rfl⟩ (r_recv X S (ly_ok_9 (by decide) hn) rfl rfl) rfl rfl hl.1 (Nat.le_of_ble_eq_true rfl) dX9_part_5 (fun H locs S => ?_)
  exact w_X9_part_L8 X hn h S (lv_sub hl [0] rfl)
def f_X9_read_L146 (N : Nat) (p1 : Int32) (p2 : Int32) (J : mm_T) (a2 : Int32) (a3 : Int32) (a4 : Int32) (a5 : Int32) : Option (mm_T × Int32) := if a2 = 0 then (some (J, a3)) else (if a2 = (1 : Int32) then (some (J, a4)) else (some (J, a5)))
set_option maxRecDepth 100000 in
set_option maxHeartbeats 4000000 in
theorem w_X9_read_L146 {l : Launch} {G : cx_T} {p : Program} {e : Env} {s : State} {m : MethodId} {args : Array Value} {below : List Frame} {meth : Method} {c : Code} {N n : Nat} {I : mm_T} {p1 : Int32} {p2 : Int32} (X : cx_ok G p s m args meth c cX9_read 6 RX9 (some .int)) (hn : 144 ≤ n) {z : mm_T × Int32} {J : mm_T} {a2 : Int32} {a3 : Int32} {a4 : Int32} {a5 : Int32} {H : Heap} {locs : List Loc} {ls : Array Slot} (h : f_X9_read_L146 N p1 p2 J a2 a3 a4 a5 = some z) (S : st_ok G n I J s H locs) (hl : lv_has ls 6 [(2, .int a2), (3, .int a3), (4, .int a4), (5, .int a5)]) : W p l e ({ frames := 66, cells := 0, slots := 0, locals := 2535 }) s m args below meth c H locs 0 0 (MQ below (ct_qi G n I z.1 z.2) args s 0 0 (cx_A G)) (F0 m 146 ls []) := by
  unfold f_X9_read_L146 at h
  refine lv_iload_n X.1 X.2.1 dX9_read_146 rfl (lv_at hl 0 rfl) ?_
  refine lv_if_ne (tgt := 154) X.1 X.2.1 dX9_read_147 (by decide) (fun c_20 => ?_) (fun c_20 => ?_)
  · have h := pz_f c_20 h
    refine lv_iload_n X.1 X.2.1 dX9_read_154 rfl (lv_at hl 0 rfl) ?_
    refine lv_iconst (v := 1) X.1 X.2.1 dX9_read_155 (by decide) ?_
    refine lv_icmp_ne (tgt := 164) X.1 X.2.1 dX9_read_156 (by decide) (fun c_21 => ?_) (fun c_21 => ?_)
    · have h := pz_f c_21 h
      refine lv_iload X.1 X.2.1 dX9_read_164 (lv_at hl 3 rfl) ?_
      cases h
      exact r_iret X S dX9_read_166
    have h := pz_t c_21 h
    refine lv_iload X.1 X.2.1 dX9_read_159 (lv_at hl 2 rfl) ?_
    refine lv_goto (tgt := 166) X.1 X.2.1 dX9_read_161 (by decide) ?_
    cases h
    exact r_iret X S dX9_read_166
  have h := pz_t c_20 h
  refine lv_iload_n X.1 X.2.1 dX9_read_150 rfl (lv_at hl 1 rfl) ?_
  refine lv_goto (tgt := 166) X.1 X.2.1 dX9_read_151 (by decide) ?_
  cases h
  exact r_iret X S dX9_read_166
def f_X9_read_L126 (N : Nat) (p1 : Int32) (p2 : Int32) (J : mm_T) (a2 : Int32) (a3 : Int32) (a4 : Int32) (s0 : Int32) : Option (mm_T × Int32) := if (J 9 0 30) = 0 then (if (J 9 0 26) = 0 then (f_X9_read_L146 N p1 p2 J a2 a3 a4 s0) else (pz_bd (f_X9_fail N J) fun q_19 => f_X9_read_L146 N p1 p2 q_19 a2 a3 a4 s0)) else (f_X9_read_L146 N p1 p2 J a2 a3 a4 s0)
set_option maxRecDepth 100000 in
set_option maxHeartbeats 4000000 in
theorem w_X9_read_L126 {l : Launch} {G : cx_T} {p : Program} {e : Env} {s : State} {m : MethodId} {args : Array Value} {below : List Frame} {meth : Method} {c : Code} {N n : Nat} {I : mm_T} {p1 : Int32} {p2 : Int32} (X : cx_ok G p s m args meth c cX9_read 6 RX9 (some .int)) (hn : 144 ≤ n) {z : mm_T × Int32} {J : mm_T} {a2 : Int32} {a3 : Int32} {a4 : Int32} {s0 : Int32} {H : Heap} {locs : List Loc} {ls : Array Slot} (h : f_X9_read_L126 N p1 p2 J a2 a3 a4 s0 = some z) (S : st_ok G n I J s H locs) (hl : lv_has ls 6 [(0, .ref (cx_b G + ly_loc 9 0)), (2, .int a2), (3, .int a3), (4, .int a4)]) : W p l e ({ frames := 66, cells := 0, slots := 0, locals := 2535 }) s m args below meth c H locs 0 0 (MQ below (ct_qi G n I z.1 z.2) args s 0 0 (cx_A G)) (F0 m 126 ls [.int s0]) := by
  unfold f_X9_read_L126 at h
  refine lv_istore (lv' := [(5, .int s0), (0, .ref (cx_b G + ly_loc 9 0)), (2, .int a2), (3, .int a3), (4, .int a4)]) X.1 X.2.1 dX9_read_126 hl (by decide) rfl (fun ls hl => ?_)
  refine lv_aload_n X.1 X.2.1 dX9_read_128 rfl (lv_at hl 1 rfl) ?_
  refine gf_X9_166 X S hn (by decide) dX9_read_129 ?_
  refine lv_if_ne (tgt := 146) X.1 X.2.1 dX9_read_132 (by decide) (fun c_17 => ?_) (fun c_17 => ?_)
  · have h := pz_f c_17 h
    exact w_X9_read_L146 X hn h S (lv_sub hl [2, 3, 4, 0] rfl)
  have h := pz_t c_17 h
  refine lv_aload_n X.1 X.2.1 dX9_read_135 rfl (lv_at hl 1 rfl) ?_
  refine gf_X9_151 X S hn (by decide) dX9_read_136 ?_
  refine lv_if_eq (tgt := 146) X.1 X.2.1 dX9_read_139 (by decide) (fun c_18 => ?_) (fun c_18 => ?_)
  · have h := pz_t c_18 h
    exact w_X9_read_L146 X hn h S (lv_sub hl [2, 3, 4, 0] rfl)
  have h := pz_f c_18 h
  refine lv_aload_n X.1 X.2.1 dX9_read_142 rfl (lv_at hl 1 rfl) ?_
  obtain ⟨q_19, eq_19, h⟩ := pz_bd_e h
  refine r_Vv X S (c_X9_fail hn eq_19) gd_X9_180 ⟨rfl, ny_X9_fail⟩ ⟨rfl, rfl⟩ ⟨Nat.le_of_ble_eq_true rfl, Nat.le_of_ble_eq_true rfl⟩ (r_recv X S (ly_ok_9 (by decide) hn) rfl rfl) rfl rfl hl.1 (Nat.le_of_ble_eq_true rfl) dX9_read_143 (fun H locs S => ?_)
  exact w_X9_read_L146 X hn h S (lv_sub hl [2, 3, 4, 0] rfl)
def f_X9_read_L92 (N : Nat) (p1 : Int32) (p2 : Int32) (J : mm_T) (a2 : Int32) (a3 : Int32) (s0 : Int32) : Option (mm_T × Int32) := if (J 9 0 30) = 0 then (pz_bd (f_X9_isWord N J (102 : Int32) (105 : Int32) (114 : Int32) (115 : Int32) (116 : Int32) (0 : Int32) (0 : Int32) (0 : Int32)) fun q_15 => pz_bd (f_X9_part N J q_15) fun q_16 => f_X9_read_L126 N p1 p2 q_16.1 a2 a3 s0 q_16.2) else (f_X9_read_L126 N p1 p2 J a2 a3 s0 (0 : Int32))
set_option maxRecDepth 100000 in
set_option maxHeartbeats 4000000 in
theorem w_X9_read_L92 {l : Launch} {G : cx_T} {p : Program} {e : Env} {s : State} {m : MethodId} {args : Array Value} {below : List Frame} {meth : Method} {c : Code} {N n : Nat} {I : mm_T} {p1 : Int32} {p2 : Int32} (X : cx_ok G p s m args meth c cX9_read 6 RX9 (some .int)) (hn : 144 ≤ n) {z : mm_T × Int32} {J : mm_T} {a2 : Int32} {a3 : Int32} {s0 : Int32} {H : Heap} {locs : List Loc} {ls : Array Slot} (h : f_X9_read_L92 N p1 p2 J a2 a3 s0 = some z) (S : st_ok G n I J s H locs) (hl : lv_has ls 6 [(0, .ref (cx_b G + ly_loc 9 0)), (2, .int a2), (3, .int a3)]) : W p l e ({ frames := 66, cells := 0, slots := 0, locals := 2535 }) s m args below meth c H locs 0 0 (MQ below (ct_qi G n I z.1 z.2) args s 0 0 (cx_A G)) (F0 m 92 ls [.int s0]) := by
  unfold f_X9_read_L92 at h
  refine lv_istore (lv' := [(4, .int s0), (0, .ref (cx_b G + ly_loc 9 0)), (2, .int a2), (3, .int a3)]) X.1 X.2.1 dX9_read_92 hl (by decide) rfl (fun ls hl => ?_)
  refine lv_aload_n X.1 X.2.1 dX9_read_94 rfl (lv_at hl 1 rfl) ?_
  refine gf_X9_166 X S hn (by decide) dX9_read_95 ?_
  refine lv_if_eq (tgt := 105) X.1 X.2.1 dX9_read_98 (by decide) (fun c_14 => ?_) (fun c_14 => ?_)
  · have h := pz_t c_14 h
    refine lv_aload_n X.1 X.2.1 dX9_read_105 rfl (lv_at hl 1 rfl) ?_
    refine lv_aload_n X.1 X.2.1 dX9_read_106 rfl (lv_at hl 1 rfl) ?_
    refine lv_bipush (v := 102) X.1 X.2.1 dX9_read_107 (by decide) ?_
    refine lv_bipush (v := 105) X.1 X.2.1 dX9_read_109 (by decide) ?_
    refine lv_bipush (v := 114) X.1 X.2.1 dX9_read_111 (by decide) ?_
    refine lv_bipush (v := 115) X.1 X.2.1 dX9_read_113 (by decide) ?_
    refine lv_bipush (v := 116) X.1 X.2.1 dX9_read_115 (by decide) ?_
    refine lv_iconst (v := 0) X.1 X.2.1 dX9_read_117 (by decide) ?_
    refine lv_iconst (v := 0) X.1 X.2.1 dX9_read_118 (by decide) ?_
    refine lv_iconst (v := 0) X.1 X.2.1 dX9_read_119 (by decide) ?_
    obtain ⟨q_15, eq_15, h⟩ := pz_bd_e h
    refine r_Vi X S (c_X9_isWord hn eq_15) gd_X9_186 ⟨rfl, ny_X9_isWord⟩ ⟨rfl, rfl⟩ ⟨Nat.le_of_ble_eq_true rfl, Nat.le_of_ble_eq_true rfl⟩ (r_recv X S (ly_ok_9 (by decide) hn) rfl rfl) rfl rfl hl.1 (Nat.le_of_ble_eq_true rfl) dX9_read_120 (fun H locs S => ?_)
    obtain ⟨q_16, eq_16, h⟩ := pz_bd_e h
    refine r_Vi X S (c_X9_part hn eq_16) gd_X9_241 ⟨rfl, ny_X9_part⟩ ⟨rfl, rfl⟩ ⟨Nat.le_of_ble_eq_true rfl, Nat.le_of_ble_eq_true rfl⟩ (r_recv X S (ly_ok_9 (by decide) hn) rfl rfl) rfl rfl hl.1 (Nat.le_of_ble_eq_true rfl) dX9_read_123 (fun H locs S => ?_)
    exact w_X9_read_L126 X hn h S (lv_sub hl [1, 2, 3, 0] rfl)
  have h := pz_f c_14 h
  refine lv_iconst (v := 0) X.1 X.2.1 dX9_read_101 (by decide) ?_
  refine lv_goto (tgt := 126) X.1 X.2.1 dX9_read_102 (by decide) ?_
  exact w_X9_read_L126 X hn h S (lv_sub hl [1, 2, 3, 0] rfl)
def f_X9_read (N : Nat) (J : mm_T) (p1 : Int32) (p2 : Int32) : Option (mm_T × Int32) := pz_lt (mm_up J 9 0 23 ((160 : Int32) * p1)) fun J_1 => pz_gd (ix_in p1 6) <| pz_lt (mm_up J_1 9 0 24 (J_1 31 0 p1.toNatClampNeg)) fun J_3 => pz_lt (mm_up J_3 9 0 25 (0 : Int32)) fun J_4 => pz_lt (mm_up J_4 9 0 29 (0 : Int32)) fun J_5 => pz_lt (mm_up J_5 9 0 30 (0 : Int32)) fun J_6 => pz_bd (f_X9_next N J_6) fun q_7 => pz_bd (f_X9_isWord N q_7 (98 : Int32) (101 : Int32) (97 : Int32) (114 : Int32) (115 : Int32) (0 : Int32) (0 : Int32) (0 : Int32)) fun q_8 => pz_bd (f_X9_part N q_7 q_8) fun q_9 => pz_lt q_9.2 fun x_10 => if (q_9.1 9 0 30) = 0 then (pz_bd (f_X9_isWord N q_9.1 (116 : Int32) (97 : Int32) (107 : Int32) (101 : Int32) (115 : Int32) (0 : Int32) (0 : Int32) (0 : Int32)) fun q_12 => pz_bd (f_X9_part N q_9.1 q_12) fun q_13 => f_X9_read_L92 N p1 p2 q_13.1 p2 x_10 q_13.2) else (f_X9_read_L92 N p1 p2 q_9.1 p2 x_10 (0 : Int32))
set_option maxRecDepth 100000 in
set_option maxHeartbeats 4000000 in
theorem c_X9_read {l : Launch} {G : cx_T} {N n : Nat} {I J : mm_T} {p1 : Int32} {p2 : Int32} (hn : 144 ≤ n) {z : mm_T × Int32} (h : f_X9_read N J p1 p2 = some z) : ct_m l G n yX9_read cX9_read 6 (some .int) ({ frames := 66, cells := 0, slots := 0, locals := 2535 }) [.ref (cx_b G + ly_loc 9 0), .int p1, .int p2] I J (ct_qi G n I z.1 z.2) := by
  refine ct_en (by decide) (Nat.le_of_ble_eq_true rfl) ?_
  intro p e s m args below meth c ls X S hl
  have X : cx_ok G p s m args meth c cX9_read 6 RX9 (some .int) := X
  have hl : lv_has ls 6 [(0, .ref (cx_b G + ly_loc 9 0)), (1, .int p1), (2, .int p2)] := hl
  unfold f_X9_read at h
  refine lv_aload_n X.1 X.2.1 dX9_read_0 rfl (lv_at hl 0 rfl) ?_
  refine lv_sipush (v := 160) X.1 X.2.1 dX9_read_1 (by decide) ?_
  refine lv_iload_n X.1 X.2.1 dX9_read_4 rfl (lv_at hl 1 rfl) ?_
  refine lv_imul X.1 X.2.1 dX9_read_5 ?_
  refine pf_X9_138 X S hn (by decide) dX9_read_6 (fun J_1 H locs eJ_1 S => ?_)
  have h := pz_lt_e h eJ_1
  refine lv_aload_n X.1 X.2.1 dX9_read_9 rfl (lv_at hl 0 rfl) ?_
  refine lv_aload_n X.1 X.2.1 dX9_read_10 rfl (lv_at hl 0 rfl) ?_
  refine gf_X9_17 X S hn (by decide) dX9_read_11 ?_
  refine lv_iload_n X.1 X.2.1 dX9_read_14 rfl (lv_at hl 1 rfl) ?_
  obtain ⟨g_2, h⟩ := pz_gd_e h
  refine al_31 X S hn (by decide) g_2 dX9_read_15 ?_
  refine pf_X9_135 X S hn (by decide) dX9_read_16 (fun J_3 H locs eJ_3 S => ?_)
  have h := pz_lt_e h eJ_3
  refine lv_aload_n X.1 X.2.1 dX9_read_19 rfl (lv_at hl 0 rfl) ?_
  refine lv_iconst (v := 0) X.1 X.2.1 dX9_read_20 (by decide) ?_
  refine pf_X9_141 X S hn (by decide) dX9_read_21 (fun J_4 H locs eJ_4 S => ?_)
  have h := pz_lt_e h eJ_4
  refine lv_aload_n X.1 X.2.1 dX9_read_24 rfl (lv_at hl 0 rfl) ?_
  refine lv_iconst (v := 0) X.1 X.2.1 dX9_read_25 (by decide) ?_
  refine pf_X9_177 X S hn (by decide) dX9_read_26 (fun J_5 H locs eJ_5 S => ?_)
  have h := pz_lt_e h eJ_5
  refine lv_aload_n X.1 X.2.1 dX9_read_29 rfl (lv_at hl 0 rfl) ?_
  refine lv_iconst (v := 0) X.1 X.2.1 dX9_read_30 (by decide) ?_
  refine pf_X9_166 X S hn (by decide) ⟨rfl, rfl⟩ dX9_read_31 (fun J_6 H locs eJ_6 S => ?_)
  have h := pz_lt_e h eJ_6
  refine lv_aload_n X.1 X.2.1 dX9_read_34 rfl (lv_at hl 0 rfl) ?_
  obtain ⟨q_7, eq_7, h⟩ := pz_bd_e h
  refine r_Vv X S (c_X9_next hn eq_7) gd_X9_183 ⟨rfl, ny_X9_next⟩ ⟨rfl, rfl⟩ ⟨Nat.le_of_ble_eq_true rfl, Nat.le_of_ble_eq_true rfl⟩ (r_recv X S (ly_ok_9 (by decide) hn) rfl rfl) rfl rfl hl.1 (Nat.le_of_ble_eq_true rfl) dX9_read_35 (fun H locs S => ?_)
  refine lv_aload_n X.1 X.2.1 dX9_read_38 rfl (lv_at hl 0 rfl) ?_
  refine lv_aload_n X.1 X.2.1 dX9_read_39 rfl (lv_at hl 0 rfl) ?_
  refine lv_bipush (v := 98) X.1 X.2.1 dX9_read_40 (by decide) ?_
  refine lv_bipush (v := 101) X.1 X.2.1 dX9_read_42 (by decide) ?_
  refine lv_bipush (v := 97) X.1 X.2.1 dX9_read_44 (by decide) ?_
  refine lv_bipush (v := 114) X.1 X.2.1 dX9_read_46 (by decide) ?_
  refine lv_bipush (v := 115) X.1 X.2.1 dX9_read_48 (by decide) ?_
  refine lv_iconst (v := 0) X.1 X.2.1 dX9_read_50 (by decide) ?_
  refine lv_iconst (v := 0) X.1 X.2.1 dX9_read_51 (by decide) ?_
  refine lv_iconst (v := 0) X.1 X.2.1 dX9_read_52 (by decide) ?_
  obtain ⟨q_8, eq_8, h⟩ := pz_bd_e h
  refine r_Vi X S (c_X9_isWord hn eq_8) gd_X9_186 ⟨rfl, ny_X9_isWord⟩ ⟨rfl, rfl⟩ ⟨Nat.le_of_ble_eq_true rfl, Nat.le_of_ble_eq_true rfl⟩ (r_recv X S (ly_ok_9 (by decide) hn) rfl rfl) rfl rfl hl.1 (Nat.le_of_ble_eq_true rfl) dX9_read_53 (fun H locs S => ?_)
  obtain ⟨q_9, eq_9, h⟩ := pz_bd_e h
  refine r_Vi X S (c_X9_part hn eq_9) gd_X9_241 ⟨rfl, ny_X9_part⟩ ⟨rfl, rfl⟩ ⟨Nat.le_of_ble_eq_true rfl, Nat.le_of_ble_eq_true rfl⟩ (r_recv X S (ly_ok_9 (by decide) hn) rfl rfl) rfl rfl hl.1 (Nat.le_of_ble_eq_true rfl) dX9_read_56 (fun H locs S => ?_)
  refine lv_topi (fun x_10 ex_10 => ?_)
  have h := pz_lt_e h ex_10
  refine lv_istore_n (lv' := [(3, .int x_10), (0, .ref (cx_b G + ly_loc 9 0)), (1, .int p1), (2, .int p2)]) X.1 X.2.1 dX9_read_59 rfl hl (by decide) rfl (fun ls hl => ?_)
  refine lv_aload_n X.1 X.2.1 dX9_read_60 rfl (lv_at hl 1 rfl) ?_
  refine gf_X9_166 X S hn (by decide) dX9_read_61 ?_
  refine lv_if_eq (tgt := 71) X.1 X.2.1 dX9_read_64 (by decide) (fun c_11 => ?_) (fun c_11 => ?_)
  · have h := pz_t c_11 h
    refine lv_aload_n X.1 X.2.1 dX9_read_71 rfl (lv_at hl 1 rfl) ?_
    refine lv_aload_n X.1 X.2.1 dX9_read_72 rfl (lv_at hl 1 rfl) ?_
    refine lv_bipush (v := 116) X.1 X.2.1 dX9_read_73 (by decide) ?_
    refine lv_bipush (v := 97) X.1 X.2.1 dX9_read_75 (by decide) ?_
    refine lv_bipush (v := 107) X.1 X.2.1 dX9_read_77 (by decide) ?_
    refine lv_bipush (v := 101) X.1 X.2.1 dX9_read_79 (by decide) ?_
    refine lv_bipush (v := 115) X.1 X.2.1 dX9_read_81 (by decide) ?_
    refine lv_iconst (v := 0) X.1 X.2.1 dX9_read_83 (by decide) ?_
    refine lv_iconst (v := 0) X.1 X.2.1 dX9_read_84 (by decide) ?_
    refine lv_iconst (v := 0) X.1 X.2.1 dX9_read_85 (by decide) ?_
    obtain ⟨q_12, eq_12, h⟩ := pz_bd_e h
    refine r_Vi X S (c_X9_isWord hn eq_12) gd_X9_186 ⟨rfl, ny_X9_isWord⟩ ⟨rfl, rfl⟩ ⟨Nat.le_of_ble_eq_true rfl, Nat.le_of_ble_eq_true rfl⟩ (r_recv X S (ly_ok_9 (by decide) hn) rfl rfl) rfl rfl hl.1 (Nat.le_of_ble_eq_true rfl) dX9_read_86 (fun H locs S => ?_)
    obtain ⟨q_13, eq_13, h⟩ := pz_bd_e h
    refine r_Vi X S (c_X9_part hn eq_13) gd_X9_241 ⟨rfl, ny_X9_part⟩ ⟨rfl, rfl⟩ ⟨Nat.le_of_ble_eq_true rfl, Nat.le_of_ble_eq_true rfl⟩ (r_recv X S (ly_ok_9 (by decide) hn) rfl rfl) rfl rfl hl.1 (Nat.le_of_ble_eq_true rfl) dX9_read_89 (fun H locs S => ?_)
    exact w_X9_read_L92 X hn h S (lv_sub hl [1, 3, 0] rfl)
  have h := pz_f c_11 h
  refine lv_iconst (v := 0) X.1 X.2.1 dX9_read_67 (by decide) ?_
  refine lv_goto (tgt := 92) X.1 X.2.1 dX9_read_68 (by decide) ?_
  exact w_X9_read_L92 X hn h S (lv_sub hl [1, 3, 0] rfl)
def f_X9_text_L14 (N : Nat) : Nat → mm_T → Int32 → Option (mm_T × Int32)
  | 0, _, _ => none
  | cnt + 1, J, a1 => if (J 9 0 6) ≤ a1 then (pz_gd (ix_in (J 9 0 3) 6) <| pz_lt (mm_up J 31 0 (J 9 0 3).toNatClampNeg (J 9 0 6)) fun J_4 => pz_lt (mm_up J_4 9 0 6 (0 : Int32)) fun J_5 => pz_bd (f_X9_read N J_5 (J_5 9 0 3) (0 : Int32)) fun q_6 => pz_lt q_6.2 fun x_7 => if (q_6.1 9 0 30) = 0 then (pz_lt (mm_up q_6.1 9 0 3 ((q_6.1 9 0 3) + (1 : Int32))) fun J_9 => some (J_9, ((J_9 9 0 3) - (1 : Int32)))) else (some (q_6.1, ((-100 : Int32) - (q_6.1 9 0 31))))) else (pz_gd (ix_in a1 160) <| pz_gd (ix_in (((160 : Int32) * (J 9 0 3)) + a1) 960) <| pz_lt (mm_up J 30 0 (((160 : Int32) * (J 9 0 3)) + a1).toNatClampNeg (J 32 0 a1.toNatClampNeg)) fun J_12 => pz_lt (a1 + (1 : Int32)) fun x_13 => f_X9_text_L14 N cnt J_12 x_13)
set_option maxRecDepth 100000 in
set_option maxHeartbeats 4000000 in
theorem w_X9_text_L14 {l : Launch} {G : cx_T} {p : Program} {e : Env} {s : State} {m : MethodId} {args : Array Value} {below : List Frame} {meth : Method} {c : Code} {N n : Nat} {I : mm_T} (X : cx_ok G p s m args meth c cX9_text 2 RX9 (some .int)) (hn : 144 ≤ n) {z : mm_T × Int32} : ∀ (cnt : Nat) {J : mm_T} {a1 : Int32} {H : Heap} {locs : List Loc} {ls : Array Slot} , f_X9_text_L14 N cnt J a1 = some z → st_ok G n I J s H locs → lv_has ls 2 [(0, .ref (cx_b G + ly_loc 9 0)), (1, .int a1)] → W p l e ({ frames := 67, cells := 0, slots := 0, locals := 2560 }) s m args below meth c H locs 0 0 (MQ below (ct_qi G n I z.1 z.2) args s 0 0 (cx_A G)) (F0 m 14 ls []) := by
  intro cnt
  induction cnt with
  | zero =>
    intro J a1 H locs ls h
    rw [f_X9_text_L14] at h
    cases h
  | succ cnt ih =>
    intro J a1 H locs ls h S hl
    rw [f_X9_text_L14] at h
    refine lv_iload_n X.1 X.2.1 dX9_text_14 rfl (lv_at hl 1 rfl) ?_
    refine lv_aload_n X.1 X.2.1 dX9_text_15 rfl (lv_at hl 0 rfl) ?_
    refine gf_X9_132 X S hn (by decide) dX9_text_16 ?_
    refine lv_icmp_ge (tgt := 49) X.1 X.2.1 dX9_text_19 (by decide) (fun c_2 => ?_) (fun c_2 => ?_)
    · have h := pz_t c_2 h
      refine lv_aload_n X.1 X.2.1 dX9_text_49 rfl (lv_at hl 0 rfl) ?_
      refine gf_X9_17 X S hn (by decide) dX9_text_50 ?_
      refine lv_aload_n X.1 X.2.1 dX9_text_53 rfl (lv_at hl 0 rfl) ?_
      refine gf_X9_88 X S hn (by decide) dX9_text_54 ?_
      refine lv_aload_n X.1 X.2.1 dX9_text_57 rfl (lv_at hl 0 rfl) ?_
      refine gf_X9_132 X S hn (by decide) dX9_text_58 ?_
      obtain ⟨g_3, h⟩ := pz_gd_e h
      refine as_31 X S hn (by decide) g_3 dX9_text_61 (fun J_4 H locs eJ_4 S => ?_)
      have h := pz_lt_e h eJ_4
      refine lv_aload_n X.1 X.2.1 dX9_text_62 rfl (lv_at hl 0 rfl) ?_
      refine lv_iconst (v := 0) X.1 X.2.1 dX9_text_63 (by decide) ?_
      refine pf_X9_132 X S hn (by decide) dX9_text_64 (fun J_5 H locs eJ_5 S => ?_)
      have h := pz_lt_e h eJ_5
      refine lv_aload_n X.1 X.2.1 dX9_text_67 rfl (lv_at hl 0 rfl) ?_
      refine lv_aload_n X.1 X.2.1 dX9_text_68 rfl (lv_at hl 0 rfl) ?_
      refine gf_X9_88 X S hn (by decide) dX9_text_69 ?_
      refine lv_iconst (v := 0) X.1 X.2.1 dX9_text_72 (by decide) ?_
      obtain ⟨q_6, eq_6, h⟩ := pz_bd_e h
      refine r_Vi X S (c_X9_read hn eq_6) gd_X9_245 ⟨rfl, ny_X9_read⟩ ⟨rfl, rfl⟩ ⟨Nat.le_of_ble_eq_true rfl, Nat.le_of_ble_eq_true rfl⟩ (r_recv X S (ly_ok_9 (by decide) hn) rfl rfl) rfl rfl hl.1 (Nat.le_of_ble_eq_true rfl) dX9_text_73 (fun H locs S => ?_)
      refine lv_topi (fun x_7 ex_7 => ?_)
      have h := pz_lt_e h ex_7
      refine lv_istore_n (lv' := [(1, .int x_7), (0, .ref (cx_b G + ly_loc 9 0))]) X.1 X.2.1 dX9_text_76 rfl hl (by decide) rfl (fun ls hl => ?_)
      refine lv_aload_n X.1 X.2.1 dX9_text_77 rfl (lv_at hl 1 rfl) ?_
      refine gf_X9_166 X S hn (by decide) dX9_text_78 ?_
      refine lv_if_eq (tgt := 92) X.1 X.2.1 dX9_text_81 (by decide) (fun c_8 => ?_) (fun c_8 => ?_)
      · have h := pz_t c_8 h
        refine lv_aload_n X.1 X.2.1 dX9_text_92 rfl (lv_at hl 1 rfl) ?_
        refine lv_dup X.1 X.2.1 dX9_text_93 rfl ?_
        refine gf_X9_88 X S hn (by decide) dX9_text_94 ?_
        refine lv_iconst (v := 1) X.1 X.2.1 dX9_text_97 (by decide) ?_
        refine lv_iadd X.1 X.2.1 dX9_text_98 ?_
        refine pf_X9_88 X S hn (by decide) dX9_text_99 (fun J_9 H locs eJ_9 S => ?_)
        have h := pz_lt_e h eJ_9
        refine lv_aload_n X.1 X.2.1 dX9_text_102 rfl (lv_at hl 1 rfl) ?_
        refine gf_X9_88 X S hn (by decide) dX9_text_103 ?_
        refine lv_iconst (v := 1) X.1 X.2.1 dX9_text_106 (by decide) ?_
        refine lv_isub X.1 X.2.1 dX9_text_107 ?_
        cases h
        exact r_iret X S dX9_text_108
      have h := pz_f c_8 h
      refine lv_bipush (v := -100) X.1 X.2.1 dX9_text_84 (by decide) ?_
      refine lv_aload_n X.1 X.2.1 dX9_text_86 rfl (lv_at hl 1 rfl) ?_
      refine gf_X9_170 X S hn (by decide) dX9_text_87 ?_
      refine lv_isub X.1 X.2.1 dX9_text_90 ?_
      cases h
      exact r_iret X S dX9_text_91
    have h := pz_f c_2 h
    refine lv_aload_n X.1 X.2.1 dX9_text_22 rfl (lv_at hl 0 rfl) ?_
    refine gf_X9_13 X S hn (by decide) dX9_text_23 ?_
    refine lv_sipush (v := 160) X.1 X.2.1 dX9_text_26 (by decide) ?_
    refine lv_aload_n X.1 X.2.1 dX9_text_29 rfl (lv_at hl 0 rfl) ?_
    refine gf_X9_88 X S hn (by decide) dX9_text_30 ?_
    refine lv_imul X.1 X.2.1 dX9_text_33 ?_
    refine lv_iload_n X.1 X.2.1 dX9_text_34 rfl (lv_at hl 1 rfl) ?_
    refine lv_iadd X.1 X.2.1 dX9_text_35 ?_
    refine lv_aload_n X.1 X.2.1 dX9_text_36 rfl (lv_at hl 0 rfl) ?_
    refine gf_X9_20 X S hn (by decide) dX9_text_37 ?_
    refine lv_iload_n X.1 X.2.1 dX9_text_40 rfl (lv_at hl 1 rfl) ?_
    obtain ⟨g_10, h⟩ := pz_gd_e h
    refine al_32 X S hn (by decide) g_10 dX9_text_41 ?_
    obtain ⟨g_11, h⟩ := pz_gd_e h
    refine as_30 X S hn (by decide) g_11 dX9_text_42 (fun J_12 H locs eJ_12 S => ?_)
    have h := pz_lt_e h eJ_12
    obtain ⟨x_13, ex_13⟩ : ∃ y : Int32, y = (a1 + (1 : Int32)) := ⟨_, rfl⟩
    have h := pz_lt_e h ex_13
    refine lv_iinc (v := x_13) (lv' := [(1, .int x_13), (0, .ref (cx_b G + ly_loc 9 0))]) X.1 X.2.1 dX9_text_43 hl (k := 1) rfl (by rw [ex_13]; rfl) (by decide) rfl (fun ls hl => ?_)
    refine lv_goto (tgt := 14) X.1 X.2.1 dX9_text_46 (by decide) ?_
    exact ih h S (lv_sub hl [1, 0] rfl)
def f_X9_text (N : Nat) (J : mm_T) : Option (mm_T × Int32) := if (J 9 0 3) = (6 : Int32) then (some (J, (-4 : Int32))) else (f_X9_text_L14 N N J (0 : Int32))
set_option maxRecDepth 100000 in
set_option maxHeartbeats 4000000 in
theorem c_X9_text {l : Launch} {G : cx_T} {N n : Nat} {I J : mm_T} (hn : 144 ≤ n) {z : mm_T × Int32} (h : f_X9_text N J = some z) : ct_m l G n yX9_text cX9_text 2 (some .int) ({ frames := 67, cells := 0, slots := 0, locals := 2560 }) [.ref (cx_b G + ly_loc 9 0)] I J (ct_qi G n I z.1 z.2) := by
  refine ct_en (by decide) (Nat.le_of_ble_eq_true rfl) ?_
  intro p e s m args below meth c ls X S hl
  have X : cx_ok G p s m args meth c cX9_text 2 RX9 (some .int) := X
  have hl : lv_has ls 2 [(0, .ref (cx_b G + ly_loc 9 0))] := hl
  unfold f_X9_text at h
  refine lv_aload_n X.1 X.2.1 dX9_text_0 rfl (lv_at hl 0 rfl) ?_
  refine gf_X9_88 X S hn (by decide) dX9_text_1 ?_
  refine lv_bipush (v := 6) X.1 X.2.1 dX9_text_4 (by decide) ?_
  refine lv_icmp_ne (tgt := 12) X.1 X.2.1 dX9_text_6 (by decide) (fun c_1 => ?_) (fun c_1 => ?_)
  · have h := pz_f c_1 h
    refine lv_iconst (v := 0) X.1 X.2.1 dX9_text_12 (by decide) ?_
    refine lv_istore_n (lv' := [(1, .int (0 : Int32)), (0, .ref (cx_b G + ly_loc 9 0))]) X.1 X.2.1 dX9_text_13 rfl hl (by decide) rfl (fun ls hl => ?_)
    exact w_X9_text_L14 X hn N h S (lv_sub hl [1, 0] rfl)
  have h := pz_t c_1 h
  refine lv_bipush (v := -4) X.1 X.2.1 dX9_text_9 (by decide) ?_
  cases h
  exact r_iret X S dX9_text_11
def f_X9_force (N : Nat) (J : mm_T) (p1 : Int32) : Option (mm_T × Int32) := pz_bd (f_X9_in N (p1.toInt64) (0 : Int64) (((J 9 0 3) - (1 : Int32)).toInt64)) fun q_1 => if q_1 = 0 then (some (J, (-2 : Int32))) else (pz_lt (J 9 0 4) fun x_3 => pz_lt (mm_up J 9 0 4 p1) fun J_4 => some (J_4, x_3))
set_option maxRecDepth 100000 in
set_option maxHeartbeats 4000000 in
theorem c_X9_force {l : Launch} {G : cx_T} {N n : Nat} {I J : mm_T} {p1 : Int32} (hn : 144 ≤ n) {z : mm_T × Int32} (h : f_X9_force N J p1 = some z) : ct_m l G n yX9_force cX9_force 3 (some .int) ({ frames := 1, cells := 0, slots := 0, locals := 25 }) [.ref (cx_b G + ly_loc 9 0), .int p1] I J (ct_qi G n I z.1 z.2) := by
  refine ct_en (by decide) (Nat.le_of_ble_eq_true rfl) ?_
  intro p e s m args below meth c ls X S hl
  have X : cx_ok G p s m args meth c cX9_force 3 RX9 (some .int) := X
  have hl : lv_has ls 3 [(0, .ref (cx_b G + ly_loc 9 0)), (1, .int p1)] := hl
  unfold f_X9_force at h
  refine lv_iload_n X.1 X.2.1 dX9_force_0 rfl (lv_at hl 1 rfl) ?_
  refine lv_i2l X.1 X.2.1 dX9_force_1 rfl ?_
  refine lv_lconst (v := 0) X.1 X.2.1 dX9_force_2 (by decide) ?_
  refine lv_aload_n X.1 X.2.1 dX9_force_3 rfl (lv_at hl 0 rfl) ?_
  refine gf_X9_88 X S hn (by decide) dX9_force_4 ?_
  refine lv_iconst (v := 1) X.1 X.2.1 dX9_force_7 (by decide) ?_
  refine lv_isub X.1 X.2.1 dX9_force_8 ?_
  refine lv_i2l X.1 X.2.1 dX9_force_9 rfl ?_
  obtain ⟨q_1, eq_1, h⟩ := pz_bd_e h
  refine r_Si X S (c_X9_in eq_1) gd_X9_94 ny_X9_in ⟨rfl, rfl⟩ ⟨Nat.le_of_ble_eq_true rfl, Nat.le_of_ble_eq_true rfl⟩ rfl rfl hl.1 (Nat.le_of_ble_eq_true rfl) dX9_force_10 (fun H locs S => ?_)
  refine lv_if_ne (tgt := 19) X.1 X.2.1 dX9_force_13 (by decide) (fun c_2 => ?_) (fun c_2 => ?_)
  · have h := pz_f c_2 h
    refine lv_aload_n X.1 X.2.1 dX9_force_19 rfl (lv_at hl 0 rfl) ?_
    refine gf_X9_249 X S hn (by decide) dX9_force_20 ?_
    refine lv_topi (fun x_3 ex_3 => ?_)
    have h := pz_lt_e h ex_3
    refine lv_istore_n (lv' := [(2, .int x_3), (0, .ref (cx_b G + ly_loc 9 0)), (1, .int p1)]) X.1 X.2.1 dX9_force_23 rfl hl (by decide) rfl (fun ls hl => ?_)
    refine lv_aload_n X.1 X.2.1 dX9_force_24 rfl (lv_at hl 1 rfl) ?_
    refine lv_iload_n X.1 X.2.1 dX9_force_25 rfl (lv_at hl 2 rfl) ?_
    refine pf_X9_249 X S hn (by decide) dX9_force_26 (fun J_4 H locs eJ_4 S => ?_)
    have h := pz_lt_e h eJ_4
    refine lv_iload_n X.1 X.2.1 dX9_force_29 rfl (lv_at hl 0 rfl) ?_
    cases h
    exact r_iret X S dX9_force_30
  have h := pz_t c_2 h
  refine lv_bipush (v := -2) X.1 X.2.1 dX9_force_16 (by decide) ?_
  cases h
  exact r_iret X S dX9_force_18
def f_X9_says (N : Nat) (J : mm_T) (p1 : Int32) (p2 : Int32) (p3 : Int32) (p4 : Int32) : Option (mm_T × Int32) := pz_lt (mm_up J 9 0 17 (J 9 0 32)) fun J_1 => pz_lt (mm_up J_1 9 0 18 p2) fun J_2 => pz_lt (mm_up J_2 9 0 19 p3) fun J_3 => pz_lt (mm_up J_3 9 0 20 p4) fun J_4 => pz_lt (mm_up J_4 9 0 21 (J_4 9 0 34)) fun J_5 => pz_lt (mm_up J_5 9 0 22 (J_5 9 0 33)) fun J_6 => pz_bd (f_X9_read N J_6 (J_6 9 0 4) p1) fun q_7 => pz_lt q_7.2 fun x_8 => if p1 = 0 then (pz_bd (f_X9_within N x_8 (-99 : Int32) (99 : Int32)) fun q_12 => some (q_7.1, q_12)) else (if p1 = (1 : Int32) then (pz_bd (f_X9_within N x_8 (0 : Int32) (99 : Int32)) fun q_11 => some (q_7.1, q_11)) else (some (q_7.1, x_8)))
set_option maxRecDepth 100000 in
set_option maxHeartbeats 4000000 in
theorem c_X9_says {l : Launch} {G : cx_T} {N n : Nat} {I J : mm_T} {p1 : Int32} {p2 : Int32} {p3 : Int32} {p4 : Int32} (hn : 144 ≤ n) {z : mm_T × Int32} (h : f_X9_says N J p1 p2 p3 p4 = some z) : ct_m l G n yX9_says cX9_says 6 (some .int) ({ frames := 67, cells := 0, slots := 0, locals := 2560 }) [.ref (cx_b G + ly_loc 9 0), .int p1, .int p2, .int p3, .int p4] I J (ct_qi G n I z.1 z.2) := by
  refine ct_en (by decide) (Nat.le_of_ble_eq_true rfl) ?_
  intro p e s m args below meth c ls X S hl
  have X : cx_ok G p s m args meth c cX9_says 6 RX9 (some .int) := X
  have hl : lv_has ls 6 [(0, .ref (cx_b G + ly_loc 9 0)), (1, .int p1), (2, .int p2), (3, .int p3), (4, .int p4)] := hl
  unfold f_X9_says at h
  refine lv_aload_n X.1 X.2.1 dX9_says_0 rfl (lv_at hl 0 rfl) ?_
  refine lv_aload_n X.1 X.2.1 dX9_says_1 rfl (lv_at hl 0 rfl) ?_
  refine gf_X9_252 X S hn (by decide) dX9_says_2 ?_
  refine pf_X9_190 X S hn (by decide) dX9_says_5 (fun J_1 H locs eJ_1 S => ?_)
  have h := pz_lt_e h eJ_1
  refine lv_aload_n X.1 X.2.1 dX9_says_8 rfl (lv_at hl 0 rfl) ?_
  refine lv_iload_n X.1 X.2.1 dX9_says_9 rfl (lv_at hl 2 rfl) ?_
  refine pf_X9_193 X S hn (by decide) dX9_says_10 (fun J_2 H locs eJ_2 S => ?_)
  have h := pz_lt_e h eJ_2
  refine lv_aload_n X.1 X.2.1 dX9_says_13 rfl (lv_at hl 0 rfl) ?_
  refine lv_iload_n X.1 X.2.1 dX9_says_14 rfl (lv_at hl 3 rfl) ?_
  refine pf_X9_196 X S hn (by decide) dX9_says_15 (fun J_3 H locs eJ_3 S => ?_)
  have h := pz_lt_e h eJ_3
  refine lv_aload_n X.1 X.2.1 dX9_says_18 rfl (lv_at hl 0 rfl) ?_
  refine lv_iload X.1 X.2.1 dX9_says_19 (lv_at hl 4 rfl) ?_
  refine pf_X9_199 X S hn (by decide) dX9_says_21 (fun J_4 H locs eJ_4 S => ?_)
  have h := pz_lt_e h eJ_4
  refine lv_aload_n X.1 X.2.1 dX9_says_24 rfl (lv_at hl 0 rfl) ?_
  refine lv_aload_n X.1 X.2.1 dX9_says_25 rfl (lv_at hl 0 rfl) ?_
  refine gf_X9_255 X S hn (by decide) dX9_says_26 ?_
  refine pf_X9_202 X S hn (by decide) dX9_says_29 (fun J_5 H locs eJ_5 S => ?_)
  have h := pz_lt_e h eJ_5
  refine lv_aload_n X.1 X.2.1 dX9_says_32 rfl (lv_at hl 0 rfl) ?_
  refine lv_aload_n X.1 X.2.1 dX9_says_33 rfl (lv_at hl 0 rfl) ?_
  refine gf_X9_258 X S hn (by decide) dX9_says_34 ?_
  refine pf_X9_205 X S hn (by decide) dX9_says_37 (fun J_6 H locs eJ_6 S => ?_)
  have h := pz_lt_e h eJ_6
  refine lv_aload_n X.1 X.2.1 dX9_says_40 rfl (lv_at hl 0 rfl) ?_
  refine lv_aload_n X.1 X.2.1 dX9_says_41 rfl (lv_at hl 0 rfl) ?_
  refine gf_X9_249 X S hn (by decide) dX9_says_42 ?_
  refine lv_iload_n X.1 X.2.1 dX9_says_45 rfl (lv_at hl 1 rfl) ?_
  obtain ⟨q_7, eq_7, h⟩ := pz_bd_e h
  refine r_Vi X S (c_X9_read hn eq_7) gd_X9_245 ⟨rfl, ny_X9_read⟩ ⟨rfl, rfl⟩ ⟨Nat.le_of_ble_eq_true rfl, Nat.le_of_ble_eq_true rfl⟩ (r_recv X S (ly_ok_9 (by decide) hn) rfl rfl) rfl rfl hl.1 (Nat.le_of_ble_eq_true rfl) dX9_says_46 (fun H locs S => ?_)
  refine lv_topi (fun x_8 ex_8 => ?_)
  have h := pz_lt_e h ex_8
  refine lv_istore (lv' := [(5, .int x_8), (0, .ref (cx_b G + ly_loc 9 0)), (1, .int p1), (2, .int p2), (3, .int p3), (4, .int p4)]) X.1 X.2.1 dX9_says_49 hl (by decide) rfl (fun ls hl => ?_)
  refine lv_iload_n X.1 X.2.1 dX9_says_51 rfl (lv_at hl 2 rfl) ?_
  refine lv_if_ne (tgt := 67) X.1 X.2.1 dX9_says_52 (by decide) (fun c_9 => ?_) (fun c_9 => ?_)
  · have h := pz_f c_9 h
    refine lv_iload_n X.1 X.2.1 dX9_says_67 rfl (lv_at hl 2 rfl) ?_
    refine lv_iconst (v := 1) X.1 X.2.1 dX9_says_68 (by decide) ?_
    refine lv_icmp_ne (tgt := 83) X.1 X.2.1 dX9_says_69 (by decide) (fun c_10 => ?_) (fun c_10 => ?_)
    · have h := pz_f c_10 h
      refine lv_iload X.1 X.2.1 dX9_says_83 (lv_at hl 0 rfl) ?_
      cases h
      exact r_iret X S dX9_says_85
    have h := pz_t c_10 h
    refine lv_iload X.1 X.2.1 dX9_says_72 (lv_at hl 0 rfl) ?_
    refine lv_iconst (v := 0) X.1 X.2.1 dX9_says_74 (by decide) ?_
    refine lv_bipush (v := 99) X.1 X.2.1 dX9_says_75 (by decide) ?_
    obtain ⟨q_11, eq_11, h⟩ := pz_bd_e h
    refine r_Si X S (c_X9_within eq_11) gd_X9_261 ny_X9_within ⟨rfl, rfl⟩ ⟨Nat.le_of_ble_eq_true rfl, Nat.le_of_ble_eq_true rfl⟩ rfl rfl hl.1 (Nat.le_of_ble_eq_true rfl) dX9_says_77 (fun H locs S => ?_)
    refine lv_goto (tgt := 85) X.1 X.2.1 dX9_says_80 (by decide) ?_
    cases h
    exact r_iret X S dX9_says_85
  have h := pz_t c_9 h
  refine lv_iload X.1 X.2.1 dX9_says_55 (lv_at hl 0 rfl) ?_
  refine lv_bipush (v := -99) X.1 X.2.1 dX9_says_57 (by decide) ?_
  refine lv_bipush (v := 99) X.1 X.2.1 dX9_says_59 (by decide) ?_
  obtain ⟨q_12, eq_12, h⟩ := pz_bd_e h
  refine r_Si X S (c_X9_within eq_12) gd_X9_261 ny_X9_within ⟨rfl, rfl⟩ ⟨Nat.le_of_ble_eq_true rfl, Nat.le_of_ble_eq_true rfl⟩ rfl rfl hl.1 (Nat.le_of_ble_eq_true rfl) dX9_says_61 (fun H locs S => ?_)
  refine lv_goto (tgt := 85) X.1 X.2.1 dX9_says_64 (by decide) ?_
  cases h
  exact r_iret X S dX9_says_85
def f_X9_begins_L47 (N : Nat) : Nat → mm_T → Int32 → Option (mm_T)
  | 0, _, _ => none
  | cnt + 1, J, a1 => if (8 : Int32) ≤ a1 then (some J) else (pz_gd (ix_in a1 8) <| pz_lt (mm_up J 39 0 a1.toNatClampNeg (0 : Int32)) fun J_10 => pz_gd (ix_in a1 8) <| pz_lt (mm_up J_10 40 0 a1.toNatClampNeg (0 : Int32)) fun J_12 => pz_lt (a1 + (1 : Int32)) fun x_13 => f_X9_begins_L47 N cnt J_12 x_13)
set_option maxRecDepth 100000 in
set_option maxHeartbeats 4000000 in
theorem w_X9_begins_L47 {l : Launch} {G : cx_T} {p : Program} {e : Env} {s : State} {m : MethodId} {args : Array Value} {below : List Frame} {meth : Method} {c : Code} {N n : Nat} {I : mm_T} (X : cx_ok G p s m args meth c cX9_begins 2 RX9 none) (hn : 144 ≤ n) {z : mm_T} : ∀ (cnt : Nat) {J : mm_T} {a1 : Int32} {H : Heap} {locs : List Loc} {ls : Array Slot} , f_X9_begins_L47 N cnt J a1 = some z → st_ok G n I J s H locs → lv_has ls 2 [(0, .ref (cx_b G + ly_loc 9 0)), (1, .int a1)] → W p l e ({ frames := 0, cells := 0, slots := 0, locals := 0 }) s m args below meth c H locs 0 0 (MQ below (ct_qv G n I z) args s 0 0 (cx_A G)) (F0 m 47 ls []) := by
  intro cnt
  induction cnt with
  | zero =>
    intro J a1 H locs ls h
    rw [f_X9_begins_L47] at h
    cases h
  | succ cnt ih =>
    intro J a1 H locs ls h S hl
    rw [f_X9_begins_L47] at h
    refine lv_iload_n X.1 X.2.1 dX9_begins_47 rfl (lv_at hl 1 rfl) ?_
    refine lv_bipush (v := 8) X.1 X.2.1 dX9_begins_48 (by decide) ?_
    refine lv_icmp_ge (tgt := 73) X.1 X.2.1 dX9_begins_50 (by decide) (fun c_8 => ?_) (fun c_8 => ?_)
    · have h := pz_t c_8 h
      cases h
      exact r_vret X S dX9_begins_73
    have h := pz_f c_8 h
    refine lv_aload_n X.1 X.2.1 dX9_begins_53 rfl (lv_at hl 0 rfl) ?_
    refine gf_X9_44 X S hn (by decide) dX9_begins_54 ?_
    refine lv_iload_n X.1 X.2.1 dX9_begins_57 rfl (lv_at hl 1 rfl) ?_
    refine lv_iconst (v := 0) X.1 X.2.1 dX9_begins_58 (by decide) ?_
    obtain ⟨g_9, h⟩ := pz_gd_e h
    refine as_39 X S hn (by decide) g_9 dX9_begins_59 (fun J_10 H locs eJ_10 S => ?_)
    have h := pz_lt_e h eJ_10
    refine lv_aload_n X.1 X.2.1 dX9_begins_60 rfl (lv_at hl 0 rfl) ?_
    refine gf_X9_47 X S hn (by decide) dX9_begins_61 ?_
    refine lv_iload_n X.1 X.2.1 dX9_begins_64 rfl (lv_at hl 1 rfl) ?_
    refine lv_iconst (v := 0) X.1 X.2.1 dX9_begins_65 (by decide) ?_
    obtain ⟨g_11, h⟩ := pz_gd_e h
    refine as_40 X S hn (by decide) g_11 dX9_begins_66 (fun J_12 H locs eJ_12 S => ?_)
    have h := pz_lt_e h eJ_12
    obtain ⟨x_13, ex_13⟩ : ∃ y : Int32, y = (a1 + (1 : Int32)) := ⟨_, rfl⟩
    have h := pz_lt_e h ex_13
    refine lv_iinc (v := x_13) (lv' := [(1, .int x_13), (0, .ref (cx_b G + ly_loc 9 0))]) X.1 X.2.1 dX9_begins_67 hl (k := 1) rfl (by rw [ex_13]; rfl) (by decide) rfl (fun ls hl => ?_)
    refine lv_goto (tgt := 47) X.1 X.2.1 dX9_begins_70 (by decide) ?_
    exact ih h S (lv_sub hl [1, 0] rfl)
def f_X9_begins (N : Nat) (J : mm_T) : Option (mm_T) := pz_lt (mm_up J 9 0 32 (0 : Int32)) fun J_1 => pz_lt (mm_up J_1 9 0 33 (J_1 9 0 15)) fun J_2 => pz_lt (mm_up J_2 9 0 34 (0 : Int32)) fun J_3 => pz_lt (mm_up J_3 9 0 35 (((1 : Int32) <<< ((J_3 9 0 9) &&& 31)) - (1 : Int32))) fun J_4 => pz_lt (mm_up J_4 9 0 36 (0 : Int32)) fun J_5 => pz_lt (mm_up J_5 9 0 39 (0 : Int32)) fun J_6 => pz_lt (mm_up J_6 9 0 40 (0 : Int32)) fun J_7 => f_X9_begins_L47 N N J_7 (0 : Int32)
set_option maxRecDepth 100000 in
set_option maxHeartbeats 4000000 in
theorem c_X9_begins {l : Launch} {G : cx_T} {N n : Nat} {I J : mm_T} (hn : 144 ≤ n) {z : mm_T} (h : f_X9_begins N J = some z) : ct_m l G n yX9_begins cX9_begins 2 none ({ frames := 0, cells := 0, slots := 0, locals := 0 }) [.ref (cx_b G + ly_loc 9 0)] I J (ct_qv G n I z) := by
  refine ct_en (by decide) (Nat.le_of_ble_eq_true rfl) ?_
  intro p e s m args below meth c ls X S hl
  have X : cx_ok G p s m args meth c cX9_begins 2 RX9 none := X
  have hl : lv_has ls 2 [(0, .ref (cx_b G + ly_loc 9 0))] := hl
  unfold f_X9_begins at h
  refine lv_aload_n X.1 X.2.1 dX9_begins_0 rfl (lv_at hl 0 rfl) ?_
  refine lv_iconst (v := 0) X.1 X.2.1 dX9_begins_1 (by decide) ?_
  refine pf_X9_252 X S hn (by decide) dX9_begins_2 (fun J_1 H locs eJ_1 S => ?_)
  have h := pz_lt_e h eJ_1
  refine lv_aload_n X.1 X.2.1 dX9_begins_5 rfl (lv_at hl 0 rfl) ?_
  refine lv_aload_n X.1 X.2.1 dX9_begins_6 rfl (lv_at hl 0 rfl) ?_
  refine gf_X9_127 X S hn (by decide) dX9_begins_7 ?_
  refine pf_X9_258 X S hn (by decide) dX9_begins_10 (fun J_2 H locs eJ_2 S => ?_)
  have h := pz_lt_e h eJ_2
  refine lv_aload_n X.1 X.2.1 dX9_begins_13 rfl (lv_at hl 0 rfl) ?_
  refine lv_iconst (v := 0) X.1 X.2.1 dX9_begins_14 (by decide) ?_
  refine pf_X9_255 X S hn (by decide) dX9_begins_15 (fun J_3 H locs eJ_3 S => ?_)
  have h := pz_lt_e h eJ_3
  refine lv_aload_n X.1 X.2.1 dX9_begins_18 rfl (lv_at hl 0 rfl) ?_
  refine lv_iconst (v := 1) X.1 X.2.1 dX9_begins_19 (by decide) ?_
  refine lv_aload_n X.1 X.2.1 dX9_begins_20 rfl (lv_at hl 0 rfl) ?_
  refine gf_X9_91 X S hn (by decide) dX9_begins_21 ?_
  refine lv_ishl X.1 X.2.1 dX9_begins_24 ?_
  refine lv_iconst (v := 1) X.1 X.2.1 dX9_begins_25 (by decide) ?_
  refine lv_isub X.1 X.2.1 dX9_begins_26 ?_
  refine pf_X9_265 X S hn (by decide) dX9_begins_27 (fun J_4 H locs eJ_4 S => ?_)
  have h := pz_lt_e h eJ_4
  refine lv_aload_n X.1 X.2.1 dX9_begins_30 rfl (lv_at hl 0 rfl) ?_
  refine lv_iconst (v := 0) X.1 X.2.1 dX9_begins_31 (by decide) ?_
  refine pf_X9_268 X S hn (by decide) dX9_begins_32 (fun J_5 H locs eJ_5 S => ?_)
  have h := pz_lt_e h eJ_5
  refine lv_aload_n X.1 X.2.1 dX9_begins_35 rfl (lv_at hl 0 rfl) ?_
  refine lv_iconst (v := 0) X.1 X.2.1 dX9_begins_36 (by decide) ?_
  refine pf_X9_271 X S hn (by decide) dX9_begins_37 (fun J_6 H locs eJ_6 S => ?_)
  have h := pz_lt_e h eJ_6
  refine lv_aload_n X.1 X.2.1 dX9_begins_40 rfl (lv_at hl 0 rfl) ?_
  refine lv_iconst (v := 0) X.1 X.2.1 dX9_begins_41 (by decide) ?_
  refine pf_X9_274 X S hn (by decide) dX9_begins_42 (fun J_7 H locs eJ_7 S => ?_)
  have h := pz_lt_e h eJ_7
  refine lv_iconst (v := 0) X.1 X.2.1 dX9_begins_45 (by decide) ?_
  refine lv_istore_n (lv' := [(1, .int (0 : Int32)), (0, .ref (cx_b G + ly_loc 9 0))]) X.1 X.2.1 dX9_begins_46 rfl hl (by decide) rfl (fun ls hl => ?_)
  exact w_X9_begins_L47 X hn N h S (lv_sub hl [1, 0] rfl)
def f_X9_canSing (N : Nat) (J : mm_T) (p1 : Int32) : Option (Int32) := pz_gd (ix_in p1 7) <| if (((J 9 0 35) >>> ((J 38 0 p1.toNatClampNeg) &&& 31)) &&& (1 : Int32)) = (1 : Int32) then (pz_gd (ix_in p1 7) <| if (J 9 0 16) < ((J 9 0 32) + (J 37 0 p1.toNatClampNeg)) then (some (0 : Int32)) else (some (1 : Int32))) else (some (0 : Int32))
set_option maxRecDepth 100000 in
set_option maxHeartbeats 4000000 in
theorem c_X9_canSing {l : Launch} {G : cx_T} {N n : Nat} {I J : mm_T} {p1 : Int32} (hn : 144 ≤ n) {z : Int32} (h : f_X9_canSing N J p1 = some z) : ct_m l G n yX9_canSing cX9_canSing 2 (some .boolean) ({ frames := 0, cells := 0, slots := 0, locals := 0 }) [.ref (cx_b G + ly_loc 9 0), .int p1] I J (ct_qi G n I J z) := by
  refine ct_en (by decide) (Nat.le_of_ble_eq_true rfl) ?_
  intro p e s m args below meth c ls X S hl
  have X : cx_ok G p s m args meth c cX9_canSing 2 RX9 (some .boolean) := X
  have hl : lv_has ls 2 [(0, .ref (cx_b G + ly_loc 9 0)), (1, .int p1)] := hl
  unfold f_X9_canSing at h
  refine lv_aload_n X.1 X.2.1 dX9_canSing_0 rfl (lv_at hl 0 rfl) ?_
  refine gf_X9_265 X S hn (by decide) dX9_canSing_1 ?_
  refine lv_aload_n X.1 X.2.1 dX9_canSing_4 rfl (lv_at hl 0 rfl) ?_
  refine gf_X9_38 X S hn (by decide) dX9_canSing_5 ?_
  refine lv_iload_n X.1 X.2.1 dX9_canSing_8 rfl (lv_at hl 1 rfl) ?_
  obtain ⟨g_1, h⟩ := pz_gd_e h
  refine al_38 X S hn (by decide) g_1 dX9_canSing_9 ?_
  refine lv_ishr X.1 X.2.1 dX9_canSing_10 ?_
  refine lv_iconst (v := 1) X.1 X.2.1 dX9_canSing_11 (by decide) ?_
  refine lv_iand X.1 X.2.1 dX9_canSing_12 ?_
  refine lv_iconst (v := 1) X.1 X.2.1 dX9_canSing_13 (by decide) ?_
  refine lv_icmp_ne (tgt := 39) X.1 X.2.1 dX9_canSing_14 (by decide) (fun c_2 => ?_) (fun c_2 => ?_)
  · have h := pz_f c_2 h
    refine lv_iconst (v := 0) X.1 X.2.1 dX9_canSing_39 (by decide) ?_
    cases h
    exact r_zret (v := 0) X S rfl dX9_canSing_40
  have h := pz_t c_2 h
  refine lv_aload_n X.1 X.2.1 dX9_canSing_17 rfl (lv_at hl 0 rfl) ?_
  refine gf_X9_252 X S hn (by decide) dX9_canSing_18 ?_
  refine lv_aload_n X.1 X.2.1 dX9_canSing_21 rfl (lv_at hl 0 rfl) ?_
  refine gf_X9_35 X S hn (by decide) dX9_canSing_22 ?_
  refine lv_iload_n X.1 X.2.1 dX9_canSing_25 rfl (lv_at hl 1 rfl) ?_
  obtain ⟨g_3, h⟩ := pz_gd_e h
  refine al_37 X S hn (by decide) g_3 dX9_canSing_26 ?_
  refine lv_iadd X.1 X.2.1 dX9_canSing_27 ?_
  refine lv_aload_n X.1 X.2.1 dX9_canSing_28 rfl (lv_at hl 0 rfl) ?_
  refine gf_X9_41 X S hn (by decide) dX9_canSing_29 ?_
  refine lv_icmp_gt (tgt := 39) X.1 X.2.1 dX9_canSing_32 (by decide) (fun c_4 => ?_) (fun c_4 => ?_)
  · have h := pz_t c_4 h
    refine lv_iconst (v := 0) X.1 X.2.1 dX9_canSing_39 (by decide) ?_
    cases h
    exact r_zret (v := 0) X S rfl dX9_canSing_40
  have h := pz_f c_4 h
  refine lv_iconst (v := 1) X.1 X.2.1 dX9_canSing_35 (by decide) ?_
  refine lv_goto (tgt := 40) X.1 X.2.1 dX9_canSing_36 (by decide) ?_
  cases h
  exact r_zret (v := 1) X S rfl dX9_canSing_40
def f_X9_calls_L251 (N : Nat) (p1 : Int32) (k168 : mm_T → Int32 → Int32 → Option (mm_T)) (J : mm_T) (a3 : Int32) (a4 : Int32) : Option (mm_T) := pz_lt (a4 + (1 : Int32)) fun x_39 => k168 J a3 x_39
set_option maxRecDepth 100000 in
set_option maxHeartbeats 4000000 in
theorem w_X9_calls_L251 {l : Launch} {G : cx_T} {p : Program} {e : Env} {s : State} {m : MethodId} {args : Array Value} {below : List Frame} {meth : Method} {c : Code} {N n : Nat} {I : mm_T} {p1 : Int32} (X : cx_ok G p s m args meth c cX9_calls 6 RX9 none) (hn : 144 ≤ n) {k168 : mm_T → Int32 → Int32 → Option (mm_T)} {z : mm_T} (K168 : ∀ {J : mm_T} {a3 : Int32} {a4 : Int32} {H : Heap} {locs : List Loc} {ls : Array Slot}, k168 J a3 a4 = some z → st_ok G n I J s H locs → lv_has ls 6 [(0, .ref (cx_b G + ly_loc 9 0)), (3, .int a3), (4, .int a4)] → W p l e ({ frames := 68, cells := 0, slots := 0, locals := 2585 }) s m args below meth c H locs 0 0 (MQ below (ct_qv G n I z) args s 0 0 (cx_A G)) (F0 m 168 ls [])) {J : mm_T} {a3 : Int32} {a4 : Int32} {H : Heap} {locs : List Loc} {ls : Array Slot} (h : f_X9_calls_L251 N p1 k168 J a3 a4 = some z) (S : st_ok G n I J s H locs) (hl : lv_has ls 6 [(0, .ref (cx_b G + ly_loc 9 0)), (3, .int a3), (4, .int a4)]) : W p l e ({ frames := 68, cells := 0, slots := 0, locals := 2585 }) s m args below meth c H locs 0 0 (MQ below (ct_qv G n I z) args s 0 0 (cx_A G)) (F0 m 251 ls []) := by
  unfold f_X9_calls_L251 at h
  obtain ⟨x_39, ex_39⟩ : ∃ y : Int32, y = (a4 + (1 : Int32)) := ⟨_, rfl⟩
  have h := pz_lt_e h ex_39
  refine lv_iinc (v := x_39) (lv' := [(4, .int x_39), (0, .ref (cx_b G + ly_loc 9 0)), (3, .int a3)]) X.1 X.2.1 dX9_calls_251 hl (k := 2) rfl (by rw [ex_39]; rfl) (by decide) rfl (fun ls hl => ?_)
  refine lv_goto (tgt := 168) X.1 X.2.1 dX9_calls_254 (by decide) ?_
  exact K168 h S (lv_sub hl [1, 2, 0] rfl)
def f_X9_calls_L168 (N : Nat) (p1 : Int32) : Nat → mm_T → Int32 → Int32 → Option (mm_T)
  | 0, _, _, _ => none
  | cnt + 1, J, a3, a4 => if (J 9 0 9) ≤ a4 then (pz_lt (mm_up J 9 0 35 a3) fun J_28 => some J_28) else (if (((J 9 0 35) >>> (a4 &&& 31)) &&& (1 : Int32)) = (1 : Int32) then (pz_gd (ix_in a4 8) <| pz_gd (ix_in (J 34 0 a4.toNatClampNeg) 8) <| pz_lt ((J 9 0 32) - (J 39 0 (J 34 0 a4.toNatClampNeg).toNatClampNeg)) fun x_32 => pz_gd (ix_in a4 8) <| pz_gd (ix_in a4 8) <| pz_gd (ix_in (J 34 0 a4.toNatClampNeg) 8) <| pz_bd (f_X9_says N J (0 : Int32) x_32 (J 40 0 (J 34 0 a4.toNatClampNeg).toNatClampNeg) (0 : Int32)) fun q_36 => if x_32 ≤ ((J 33 0 a4.toNatClampNeg) + q_36.2) then (f_X9_calls_L251 N p1 (f_X9_calls_L168 N p1 cnt) q_36.1 a3 a4) else (pz_lt (a3 &&& (((1 : Int32) <<< (a4 &&& 31)) ^^^ (-1 : Int32))) fun x_38 => f_X9_calls_L251 N p1 (f_X9_calls_L168 N p1 cnt) q_36.1 x_38 a4)) else (f_X9_calls_L251 N p1 (f_X9_calls_L168 N p1 cnt) J a3 a4))
set_option maxRecDepth 100000 in
set_option maxHeartbeats 4000000 in
theorem w_X9_calls_L168 {l : Launch} {G : cx_T} {p : Program} {e : Env} {s : State} {m : MethodId} {args : Array Value} {below : List Frame} {meth : Method} {c : Code} {N n : Nat} {I : mm_T} {p1 : Int32} (X : cx_ok G p s m args meth c cX9_calls 6 RX9 none) (hn : 144 ≤ n) {z : mm_T} : ∀ (cnt : Nat) {J : mm_T} {a3 : Int32} {a4 : Int32} {H : Heap} {locs : List Loc} {ls : Array Slot} , f_X9_calls_L168 N p1 cnt J a3 a4 = some z → st_ok G n I J s H locs → lv_has ls 6 [(0, .ref (cx_b G + ly_loc 9 0)), (3, .int a3), (4, .int a4)] → W p l e ({ frames := 68, cells := 0, slots := 0, locals := 2585 }) s m args below meth c H locs 0 0 (MQ below (ct_qv G n I z) args s 0 0 (cx_A G)) (F0 m 168 ls []) := by
  intro cnt
  induction cnt with
  | zero =>
    intro J a3 a4 H locs ls h
    rw [f_X9_calls_L168] at h
    cases h
  | succ cnt ih =>
    intro J a3 a4 H locs ls h S hl
    rw [f_X9_calls_L168] at h
    refine lv_iload X.1 X.2.1 dX9_calls_168 (lv_at hl 2 rfl) ?_
    refine lv_aload_n X.1 X.2.1 dX9_calls_170 rfl (lv_at hl 0 rfl) ?_
    refine gf_X9_91 X S hn (by decide) dX9_calls_171 ?_
    refine lv_icmp_ge (tgt := 257) X.1 X.2.1 dX9_calls_174 (by decide) (fun c_27 => ?_) (fun c_27 => ?_)
    · have h := pz_t c_27 h
      refine lv_aload_n X.1 X.2.1 dX9_calls_257 rfl (lv_at hl 0 rfl) ?_
      refine lv_iload_n X.1 X.2.1 dX9_calls_258 rfl (lv_at hl 1 rfl) ?_
      refine pf_X9_265 X S hn (by decide) dX9_calls_259 (fun J_28 H locs eJ_28 S => ?_)
      have h := pz_lt_e h eJ_28
      cases h
      exact r_vret X S dX9_calls_262
    have h := pz_f c_27 h
    refine lv_aload_n X.1 X.2.1 dX9_calls_177 rfl (lv_at hl 0 rfl) ?_
    refine gf_X9_265 X S hn (by decide) dX9_calls_178 ?_
    refine lv_iload X.1 X.2.1 dX9_calls_181 (lv_at hl 2 rfl) ?_
    refine lv_ishr X.1 X.2.1 dX9_calls_183 ?_
    refine lv_iconst (v := 1) X.1 X.2.1 dX9_calls_184 (by decide) ?_
    refine lv_iand X.1 X.2.1 dX9_calls_185 ?_
    refine lv_iconst (v := 1) X.1 X.2.1 dX9_calls_186 (by decide) ?_
    refine lv_icmp_ne (tgt := 251) X.1 X.2.1 dX9_calls_187 (by decide) (fun c_29 => ?_) (fun c_29 => ?_)
    · have h := pz_f c_29 h
      exact w_X9_calls_L251 X hn ih h S (lv_sub hl [0, 1, 2] rfl)
    have h := pz_t c_29 h
    refine lv_aload_n X.1 X.2.1 dX9_calls_190 rfl (lv_at hl 0 rfl) ?_
    refine gf_X9_252 X S hn (by decide) dX9_calls_191 ?_
    refine lv_aload_n X.1 X.2.1 dX9_calls_194 rfl (lv_at hl 0 rfl) ?_
    refine gf_X9_44 X S hn (by decide) dX9_calls_195 ?_
    refine lv_aload_n X.1 X.2.1 dX9_calls_198 rfl (lv_at hl 0 rfl) ?_
    refine gf_X9_26 X S hn (by decide) dX9_calls_199 ?_
    refine lv_iload X.1 X.2.1 dX9_calls_202 (lv_at hl 2 rfl) ?_
    obtain ⟨g_30, h⟩ := pz_gd_e h
    refine al_34 X S hn (by decide) g_30 dX9_calls_204 ?_
    obtain ⟨g_31, h⟩ := pz_gd_e h
    refine al_39 X S hn (by decide) g_31 dX9_calls_205 ?_
    refine lv_isub X.1 X.2.1 dX9_calls_206 ?_
    refine lv_topi (fun x_32 ex_32 => ?_)
    have h := pz_lt_e h ex_32
    refine lv_istore (lv' := [(5, .int x_32), (0, .ref (cx_b G + ly_loc 9 0)), (3, .int a3), (4, .int a4)]) X.1 X.2.1 dX9_calls_207 hl (by decide) rfl (fun ls hl => ?_)
    refine lv_iload X.1 X.2.1 dX9_calls_209 (lv_at hl 0 rfl) ?_
    refine lv_aload_n X.1 X.2.1 dX9_calls_211 rfl (lv_at hl 1 rfl) ?_
    refine gf_X9_23 X S hn (by decide) dX9_calls_212 ?_
    refine lv_iload X.1 X.2.1 dX9_calls_215 (lv_at hl 3 rfl) ?_
    obtain ⟨g_33, h⟩ := pz_gd_e h
    refine al_33 X S hn (by decide) g_33 dX9_calls_217 ?_
    refine lv_aload_n X.1 X.2.1 dX9_calls_218 rfl (lv_at hl 1 rfl) ?_
    refine lv_iconst (v := 0) X.1 X.2.1 dX9_calls_219 (by decide) ?_
    refine lv_iload X.1 X.2.1 dX9_calls_220 (lv_at hl 0 rfl) ?_
    refine lv_aload_n X.1 X.2.1 dX9_calls_222 rfl (lv_at hl 1 rfl) ?_
    refine gf_X9_47 X S hn (by decide) dX9_calls_223 ?_
    refine lv_aload_n X.1 X.2.1 dX9_calls_226 rfl (lv_at hl 1 rfl) ?_
    refine gf_X9_26 X S hn (by decide) dX9_calls_227 ?_
    refine lv_iload X.1 X.2.1 dX9_calls_230 (lv_at hl 3 rfl) ?_
    obtain ⟨g_34, h⟩ := pz_gd_e h
    refine al_34 X S hn (by decide) g_34 dX9_calls_232 ?_
    obtain ⟨g_35, h⟩ := pz_gd_e h
    refine al_40 X S hn (by decide) g_35 dX9_calls_233 ?_
    refine lv_iconst (v := 0) X.1 X.2.1 dX9_calls_234 (by decide) ?_
    obtain ⟨q_36, eq_36, h⟩ := pz_bd_e h
    refine r_Vi X S (c_X9_says hn eq_36) gd_X9_289 ⟨rfl, ny_X9_says⟩ ⟨rfl, rfl⟩ ⟨Nat.le_of_ble_eq_true rfl, Nat.le_of_ble_eq_true rfl⟩ (r_recv X S (ly_ok_9 (by decide) hn) rfl rfl) rfl rfl hl.1 (Nat.le_of_ble_eq_true rfl) dX9_calls_235 (fun H locs S => ?_)
    refine lv_iadd X.1 X.2.1 dX9_calls_238 ?_
    refine lv_icmp_le (tgt := 251) X.1 X.2.1 dX9_calls_239 (by decide) (fun c_37 => ?_) (fun c_37 => ?_)
    · have h := pz_t c_37 h
      exact w_X9_calls_L251 X hn ih h S (lv_sub hl [1, 2, 3] rfl)
    have h := pz_f c_37 h
    refine lv_iload_n X.1 X.2.1 dX9_calls_242 rfl (lv_at hl 2 rfl) ?_
    refine lv_iconst (v := 1) X.1 X.2.1 dX9_calls_243 (by decide) ?_
    refine lv_iload X.1 X.2.1 dX9_calls_244 (lv_at hl 3 rfl) ?_
    refine lv_ishl X.1 X.2.1 dX9_calls_246 ?_
    refine lv_iconst (v := -1) X.1 X.2.1 dX9_calls_247 (by decide) ?_
    refine lv_ixor X.1 X.2.1 dX9_calls_248 ?_
    refine lv_iand X.1 X.2.1 dX9_calls_249 ?_
    refine lv_topi (fun x_38 ex_38 => ?_)
    have h := pz_lt_e h ex_38
    refine lv_istore_n (lv' := [(3, .int x_38), (5, .int x_32), (0, .ref (cx_b G + ly_loc 9 0)), (4, .int a4)]) X.1 X.2.1 dX9_calls_250 rfl hl (by decide) rfl (fun ls hl => ?_)
    exact w_X9_calls_L251 X hn ih h S (lv_sub hl [2, 0, 3] rfl)
def f_X9_calls (N : Nat) (J : mm_T) (p1 : Int32) : Option (mm_T) := pz_lt (mm_up J 9 0 39 ((J 9 0 39) ||| ((1 : Int32) <<< (p1 &&& 31)))) fun J_1 => pz_bd (f_X9_canSing N J_1 p1) fun q_2 => if q_2 = 0 then (some J_1) else (pz_gd (ix_in p1 7) <| pz_lt (mm_up J_1 41 0 p1.toNatClampNeg (J_1 9 0 32)) fun J_5 => pz_gd (ix_in p1 7) <| pz_lt (mm_up J_5 9 0 32 ((J_5 9 0 32) + (J_5 37 0 p1.toNatClampNeg))) fun J_7 => pz_bd (f_X9_moves N J_7 p1 (J_7 9 0 33)) fun q_8 => pz_bd (f_X9_within N ((J_7 9 0 33) + q_8) (-99 : Int32) (99 : Int32)) fun q_9 => pz_lt (mm_up J_7 9 0 33 q_9) fun J_10 => pz_gd (ix_in p1 7) <| pz_gd (ix_in (J_10 38 0 p1.toNatClampNeg) 8) <| pz_lt (J_10 34 0 (J_10 38 0 p1.toNatClampNeg).toNatClampNeg) fun x_13 => pz_gd (ix_in x_13 8) <| pz_lt (mm_up J_10 39 0 x_13.toNatClampNeg (J_10 9 0 32)) fun J_15 => pz_gd (ix_in x_13 8) <| pz_gd (ix_in x_13 8) <| pz_lt (mm_up J_15 40 0 x_13.toNatClampNeg ((J_15 40 0 x_13.toNatClampNeg) + (1 : Int32))) fun J_18 => pz_lt (mm_up J_18 9 0 36 ((J_18 9 0 36) + (1 : Int32))) fun J_19 => pz_lt (mm_up J_19 9 0 40 ((J_19 9 0 40) ||| ((1 : Int32) <<< (p1 &&& 31)))) fun J_20 => pz_bd (f_X9_bitsOf N (J_20 9 0 35)) fun q_21 => pz_bd (f_X9_thirst N J_20 p1 q_21) fun q_22 => pz_gd (ix_in p1 7) <| pz_bd (f_X9_says N J_20 (1 : Int32) (0 : Int32) (0 : Int32) (J_20 35 0 p1.toNatClampNeg)) fun q_24 => pz_lt (mm_up q_24.1 9 0 34 ((J_20 9 0 34) + (q_22 * q_24.2))) fun J_25 => pz_lt (J_25 9 0 35) fun x_26 => f_X9_calls_L168 N p1 N J_25 x_26 (0 : Int32))
set_option maxRecDepth 100000 in
set_option maxHeartbeats 4000000 in
theorem c_X9_calls {l : Launch} {G : cx_T} {N n : Nat} {I J : mm_T} {p1 : Int32} (hn : 144 ≤ n) {z : mm_T} (h : f_X9_calls N J p1 = some z) : ct_m l G n yX9_calls cX9_calls 6 none ({ frames := 68, cells := 0, slots := 0, locals := 2585 }) [.ref (cx_b G + ly_loc 9 0), .int p1] I J (ct_qv G n I z) := by
  refine ct_en (by decide) (Nat.le_of_ble_eq_true rfl) ?_
  intro p e s m args below meth c ls X S hl
  have X : cx_ok G p s m args meth c cX9_calls 6 RX9 none := X
  have hl : lv_has ls 6 [(0, .ref (cx_b G + ly_loc 9 0)), (1, .int p1)] := hl
  unfold f_X9_calls at h
  refine lv_aload_n X.1 X.2.1 dX9_calls_0 rfl (lv_at hl 0 rfl) ?_
  refine lv_dup X.1 X.2.1 dX9_calls_1 rfl ?_
  refine gf_X9_271 X S hn (by decide) dX9_calls_2 ?_
  refine lv_iconst (v := 1) X.1 X.2.1 dX9_calls_5 (by decide) ?_
  refine lv_iload_n X.1 X.2.1 dX9_calls_6 rfl (lv_at hl 1 rfl) ?_
  refine lv_ishl X.1 X.2.1 dX9_calls_7 ?_
  refine lv_ior X.1 X.2.1 dX9_calls_8 ?_
  refine pf_X9_271 X S hn (by decide) dX9_calls_9 (fun J_1 H locs eJ_1 S => ?_)
  have h := pz_lt_e h eJ_1
  refine lv_aload_n X.1 X.2.1 dX9_calls_12 rfl (lv_at hl 0 rfl) ?_
  refine lv_iload_n X.1 X.2.1 dX9_calls_13 rfl (lv_at hl 1 rfl) ?_
  obtain ⟨q_2, eq_2, h⟩ := pz_bd_e h
  refine r_Vi X S (c_X9_canSing hn eq_2) gd_X9_277 ⟨rfl, ny_X9_canSing⟩ ⟨rfl, rfl⟩ ⟨Nat.le_of_ble_eq_true rfl, Nat.le_of_ble_eq_true rfl⟩ (r_recv X S (ly_ok_9 (by decide) hn) rfl rfl) rfl rfl hl.1 (Nat.le_of_ble_eq_true rfl) dX9_calls_14 (fun H locs S => ?_)
  refine lv_if_ne (tgt := 21) X.1 X.2.1 dX9_calls_17 (by decide) (fun c_3 => ?_) (fun c_3 => ?_)
  · have h := pz_f c_3 h
    refine lv_aload_n X.1 X.2.1 dX9_calls_21 rfl (lv_at hl 0 rfl) ?_
    refine gf_X9_50 X S hn (by decide) dX9_calls_22 ?_
    refine lv_iload_n X.1 X.2.1 dX9_calls_25 rfl (lv_at hl 1 rfl) ?_
    refine lv_aload_n X.1 X.2.1 dX9_calls_26 rfl (lv_at hl 0 rfl) ?_
    refine gf_X9_252 X S hn (by decide) dX9_calls_27 ?_
    obtain ⟨g_4, h⟩ := pz_gd_e h
    refine as_41 X S hn (by decide) g_4 dX9_calls_30 (fun J_5 H locs eJ_5 S => ?_)
    have h := pz_lt_e h eJ_5
    refine lv_aload_n X.1 X.2.1 dX9_calls_31 rfl (lv_at hl 0 rfl) ?_
    refine lv_dup X.1 X.2.1 dX9_calls_32 rfl ?_
    refine gf_X9_252 X S hn (by decide) dX9_calls_33 ?_
    refine lv_aload_n X.1 X.2.1 dX9_calls_36 rfl (lv_at hl 0 rfl) ?_
    refine gf_X9_35 X S hn (by decide) dX9_calls_37 ?_
    refine lv_iload_n X.1 X.2.1 dX9_calls_40 rfl (lv_at hl 1 rfl) ?_
    obtain ⟨g_6, h⟩ := pz_gd_e h
    refine al_37 X S hn (by decide) g_6 dX9_calls_41 ?_
    refine lv_iadd X.1 X.2.1 dX9_calls_42 ?_
    refine pf_X9_252 X S hn (by decide) dX9_calls_43 (fun J_7 H locs eJ_7 S => ?_)
    have h := pz_lt_e h eJ_7
    refine lv_aload_n X.1 X.2.1 dX9_calls_46 rfl (lv_at hl 0 rfl) ?_
    refine lv_aload_n X.1 X.2.1 dX9_calls_47 rfl (lv_at hl 0 rfl) ?_
    refine gf_X9_258 X S hn (by decide) dX9_calls_48 ?_
    refine lv_aload_n X.1 X.2.1 dX9_calls_51 rfl (lv_at hl 0 rfl) ?_
    refine lv_iload_n X.1 X.2.1 dX9_calls_52 rfl (lv_at hl 1 rfl) ?_
    refine lv_aload_n X.1 X.2.1 dX9_calls_53 rfl (lv_at hl 0 rfl) ?_
    refine gf_X9_258 X S hn (by decide) dX9_calls_54 ?_
    obtain ⟨q_8, eq_8, h⟩ := pz_bd_e h
    refine r_Vi X S (c_X9_moves hn eq_8) gd_X9_280 ⟨rfl, ny_X9_moves⟩ ⟨rfl, rfl⟩ ⟨Nat.le_of_ble_eq_true rfl, Nat.le_of_ble_eq_true rfl⟩ (r_recv X S (ly_ok_9 (by decide) hn) rfl rfl) rfl rfl hl.1 (Nat.le_of_ble_eq_true rfl) dX9_calls_57 (fun H locs S => ?_)
    refine lv_iadd X.1 X.2.1 dX9_calls_60 ?_
    refine lv_bipush (v := -99) X.1 X.2.1 dX9_calls_61 (by decide) ?_
    refine lv_bipush (v := 99) X.1 X.2.1 dX9_calls_63 (by decide) ?_
    obtain ⟨q_9, eq_9, h⟩ := pz_bd_e h
    refine r_Si X S (c_X9_within eq_9) gd_X9_261 ny_X9_within ⟨rfl, rfl⟩ ⟨Nat.le_of_ble_eq_true rfl, Nat.le_of_ble_eq_true rfl⟩ rfl rfl hl.1 (Nat.le_of_ble_eq_true rfl) dX9_calls_65 (fun H locs S => ?_)
    refine pf_X9_258 X S hn (by decide) dX9_calls_68 (fun J_10 H locs eJ_10 S => ?_)
    have h := pz_lt_e h eJ_10
    refine lv_aload_n X.1 X.2.1 dX9_calls_71 rfl (lv_at hl 0 rfl) ?_
    refine gf_X9_26 X S hn (by decide) dX9_calls_72 ?_
    refine lv_aload_n X.1 X.2.1 dX9_calls_75 rfl (lv_at hl 0 rfl) ?_
    refine gf_X9_38 X S hn (by decide) dX9_calls_76 ?_
    refine lv_iload_n X.1 X.2.1 dX9_calls_79 rfl (lv_at hl 1 rfl) ?_
    obtain ⟨g_11, h⟩ := pz_gd_e h
    refine al_38 X S hn (by decide) g_11 dX9_calls_80 ?_
    obtain ⟨g_12, h⟩ := pz_gd_e h
    refine al_34 X S hn (by decide) g_12 dX9_calls_81 ?_
    refine lv_topi (fun x_13 ex_13 => ?_)
    have h := pz_lt_e h ex_13
    refine lv_istore_n (lv' := [(2, .int x_13), (0, .ref (cx_b G + ly_loc 9 0)), (1, .int p1)]) X.1 X.2.1 dX9_calls_82 rfl hl (by decide) rfl (fun ls hl => ?_)
    refine lv_aload_n X.1 X.2.1 dX9_calls_83 rfl (lv_at hl 1 rfl) ?_
    refine gf_X9_44 X S hn (by decide) dX9_calls_84 ?_
    refine lv_iload_n X.1 X.2.1 dX9_calls_87 rfl (lv_at hl 0 rfl) ?_
    refine lv_aload_n X.1 X.2.1 dX9_calls_88 rfl (lv_at hl 1 rfl) ?_
    refine gf_X9_252 X S hn (by decide) dX9_calls_89 ?_
    obtain ⟨g_14, h⟩ := pz_gd_e h
    refine as_39 X S hn (by decide) g_14 dX9_calls_92 (fun J_15 H locs eJ_15 S => ?_)
    have h := pz_lt_e h eJ_15
    refine lv_aload_n X.1 X.2.1 dX9_calls_93 rfl (lv_at hl 1 rfl) ?_
    refine gf_X9_47 X S hn (by decide) dX9_calls_94 ?_
    refine lv_iload_n X.1 X.2.1 dX9_calls_97 rfl (lv_at hl 0 rfl) ?_
    refine lv_dup2_11 X.1 X.2.1 dX9_calls_98 rfl rfl ?_
    obtain ⟨g_16, h⟩ := pz_gd_e h
    refine al_40 X S hn (by decide) g_16 dX9_calls_99 ?_
    refine lv_iconst (v := 1) X.1 X.2.1 dX9_calls_100 (by decide) ?_
    refine lv_iadd X.1 X.2.1 dX9_calls_101 ?_
    obtain ⟨g_17, h⟩ := pz_gd_e h
    refine as_40 X S hn (by decide) g_17 dX9_calls_102 (fun J_18 H locs eJ_18 S => ?_)
    have h := pz_lt_e h eJ_18
    refine lv_aload_n X.1 X.2.1 dX9_calls_103 rfl (lv_at hl 1 rfl) ?_
    refine lv_dup X.1 X.2.1 dX9_calls_104 rfl ?_
    refine gf_X9_268 X S hn (by decide) dX9_calls_105 ?_
    refine lv_iconst (v := 1) X.1 X.2.1 dX9_calls_108 (by decide) ?_
    refine lv_iadd X.1 X.2.1 dX9_calls_109 ?_
    refine pf_X9_268 X S hn (by decide) dX9_calls_110 (fun J_19 H locs eJ_19 S => ?_)
    have h := pz_lt_e h eJ_19
    refine lv_aload_n X.1 X.2.1 dX9_calls_113 rfl (lv_at hl 1 rfl) ?_
    refine lv_dup X.1 X.2.1 dX9_calls_114 rfl ?_
    refine gf_X9_274 X S hn (by decide) dX9_calls_115 ?_
    refine lv_iconst (v := 1) X.1 X.2.1 dX9_calls_118 (by decide) ?_
    refine lv_iload_n X.1 X.2.1 dX9_calls_119 rfl (lv_at hl 2 rfl) ?_
    refine lv_ishl X.1 X.2.1 dX9_calls_120 ?_
    refine lv_ior X.1 X.2.1 dX9_calls_121 ?_
    refine pf_X9_274 X S hn (by decide) dX9_calls_122 (fun J_20 H locs eJ_20 S => ?_)
    have h := pz_lt_e h eJ_20
    refine lv_aload_n X.1 X.2.1 dX9_calls_125 rfl (lv_at hl 1 rfl) ?_
    refine lv_dup X.1 X.2.1 dX9_calls_126 rfl ?_
    refine gf_X9_255 X S hn (by decide) dX9_calls_127 ?_
    refine lv_aload_n X.1 X.2.1 dX9_calls_130 rfl (lv_at hl 1 rfl) ?_
    refine lv_iload_n X.1 X.2.1 dX9_calls_131 rfl (lv_at hl 2 rfl) ?_
    refine lv_aload_n X.1 X.2.1 dX9_calls_132 rfl (lv_at hl 1 rfl) ?_
    refine gf_X9_265 X S hn (by decide) dX9_calls_133 ?_
    obtain ⟨q_21, eq_21, h⟩ := pz_bd_e h
    refine r_Si X S (c_X9_bitsOf eq_21) gd_X9_283 ny_X9_bitsOf ⟨rfl, rfl⟩ ⟨Nat.le_of_ble_eq_true rfl, Nat.le_of_ble_eq_true rfl⟩ rfl rfl hl.1 (Nat.le_of_ble_eq_true rfl) dX9_calls_136 (fun H locs S => ?_)
    obtain ⟨q_22, eq_22, h⟩ := pz_bd_e h
    refine r_Vi X S (c_X9_thirst hn eq_22) gd_X9_286 ⟨rfl, ny_X9_thirst⟩ ⟨rfl, rfl⟩ ⟨Nat.le_of_ble_eq_true rfl, Nat.le_of_ble_eq_true rfl⟩ (r_recv X S (ly_ok_9 (by decide) hn) rfl rfl) rfl rfl hl.1 (Nat.le_of_ble_eq_true rfl) dX9_calls_139 (fun H locs S => ?_)
    refine lv_aload_n X.1 X.2.1 dX9_calls_142 rfl (lv_at hl 1 rfl) ?_
    refine lv_iconst (v := 1) X.1 X.2.1 dX9_calls_143 (by decide) ?_
    refine lv_iconst (v := 0) X.1 X.2.1 dX9_calls_144 (by decide) ?_
    refine lv_iconst (v := 0) X.1 X.2.1 dX9_calls_145 (by decide) ?_
    refine lv_aload_n X.1 X.2.1 dX9_calls_146 rfl (lv_at hl 1 rfl) ?_
    refine gf_X9_29 X S hn (by decide) dX9_calls_147 ?_
    refine lv_iload_n X.1 X.2.1 dX9_calls_150 rfl (lv_at hl 2 rfl) ?_
    obtain ⟨g_23, h⟩ := pz_gd_e h
    refine al_35 X S hn (by decide) g_23 dX9_calls_151 ?_
    obtain ⟨q_24, eq_24, h⟩ := pz_bd_e h
    refine r_Vi X S (c_X9_says hn eq_24) gd_X9_289 ⟨rfl, ny_X9_says⟩ ⟨rfl, rfl⟩ ⟨Nat.le_of_ble_eq_true rfl, Nat.le_of_ble_eq_true rfl⟩ (r_recv X S (ly_ok_9 (by decide) hn) rfl rfl) rfl rfl hl.1 (Nat.le_of_ble_eq_true rfl) dX9_calls_152 (fun H locs S => ?_)
    refine lv_imul X.1 X.2.1 dX9_calls_155 ?_
    refine lv_iadd X.1 X.2.1 dX9_calls_156 ?_
    refine pf_X9_255 X S hn (by decide) dX9_calls_157 (fun J_25 H locs eJ_25 S => ?_)
    have h := pz_lt_e h eJ_25
    refine lv_aload_n X.1 X.2.1 dX9_calls_160 rfl (lv_at hl 1 rfl) ?_
    refine gf_X9_265 X S hn (by decide) dX9_calls_161 ?_
    refine lv_topi (fun x_26 ex_26 => ?_)
    have h := pz_lt_e h ex_26
    refine lv_istore_n (lv' := [(3, .int x_26), (2, .int x_13), (0, .ref (cx_b G + ly_loc 9 0)), (1, .int p1)]) X.1 X.2.1 dX9_calls_164 rfl hl (by decide) rfl (fun ls hl => ?_)
    refine lv_iconst (v := 0) X.1 X.2.1 dX9_calls_165 (by decide) ?_
    refine lv_istore (lv' := [(4, .int (0 : Int32)), (3, .int x_26), (2, .int x_13), (0, .ref (cx_b G + ly_loc 9 0)), (1, .int p1)]) X.1 X.2.1 dX9_calls_166 hl (by decide) rfl (fun ls hl => ?_)
    exact w_X9_calls_L168 X hn N h S (lv_sub hl [3, 1, 0] rfl)
  have h := pz_t c_3 h
  cases h
  exact r_vret X S dX9_calls_20
def f_X9_leftMany (N : Nat) (J : mm_T) : Option (Int32) := pz_bd (f_X9_bitsOf N (J 9 0 35)) fun q_1 => some ((J 9 0 9) - q_1)
set_option maxRecDepth 100000 in
set_option maxHeartbeats 4000000 in
theorem c_X9_leftMany {l : Launch} {G : cx_T} {N n : Nat} {I J : mm_T} (hn : 144 ≤ n) {z : Int32} (h : f_X9_leftMany N J = some z) : ct_m l G n yX9_leftMany cX9_leftMany 1 (some .int) ({ frames := 1, cells := 0, slots := 0, locals := 22 }) [.ref (cx_b G + ly_loc 9 0)] I J (ct_qi G n I J z) := by
  refine ct_en (by decide) (Nat.le_of_ble_eq_true rfl) ?_
  intro p e s m args below meth c ls X S hl
  have X : cx_ok G p s m args meth c cX9_leftMany 1 RX9 (some .int) := X
  have hl : lv_has ls 1 [(0, .ref (cx_b G + ly_loc 9 0))] := hl
  unfold f_X9_leftMany at h
  refine lv_aload_n X.1 X.2.1 dX9_leftMany_0 rfl (lv_at hl 0 rfl) ?_
  refine gf_X9_91 X S hn (by decide) dX9_leftMany_1 ?_
  refine lv_aload_n X.1 X.2.1 dX9_leftMany_4 rfl (lv_at hl 0 rfl) ?_
  refine gf_X9_265 X S hn (by decide) dX9_leftMany_5 ?_
  obtain ⟨q_1, eq_1, h⟩ := pz_bd_e h
  refine r_Si X S (c_X9_bitsOf eq_1) gd_X9_283 ny_X9_bitsOf ⟨rfl, rfl⟩ ⟨Nat.le_of_ble_eq_true rfl, Nat.le_of_ble_eq_true rfl⟩ rfl rfl hl.1 (Nat.le_of_ble_eq_true rfl) dX9_leftMany_8 (fun H locs S => ?_)
  refine lv_isub X.1 X.2.1 dX9_leftMany_11 ?_
  cases h
  exact r_iret X S dX9_leftMany_12
def f_X9_tells (N : Nat) (J : mm_T) (p1 : Int32) : Option (Int32) := if (3 : Int32) ≤ p1 then (if p1 = (3 : Int32) then (some (J 9 0 33)) else (if p1 = (4 : Int32) then (some (J 9 0 32)) else (some (J 9 0 35)))) else (if p1 = 0 then (some (J 9 0 34)) else (if p1 = (1 : Int32) then (pz_bd (f_X9_leftMany N J) fun q_6 => some q_6) else (some (J 9 0 36))))
set_option maxRecDepth 100000 in
set_option maxHeartbeats 4000000 in
theorem c_X9_tells {l : Launch} {G : cx_T} {N n : Nat} {I J : mm_T} {p1 : Int32} (hn : 144 ≤ n) {z : Int32} (h : f_X9_tells N J p1 = some z) : ct_m l G n yX9_tells cX9_tells 2 (some .int) ({ frames := 2, cells := 0, slots := 0, locals := 42 }) [.ref (cx_b G + ly_loc 9 0), .int p1] I J (ct_qi G n I J z) := by
  refine ct_en (by decide) (Nat.le_of_ble_eq_true rfl) ?_
  intro p e s m args below meth c ls X S hl
  have X : cx_ok G p s m args meth c cX9_tells 2 RX9 (some .int) := X
  have hl : lv_has ls 2 [(0, .ref (cx_b G + ly_loc 9 0)), (1, .int p1)] := hl
  unfold f_X9_tells at h
  refine lv_iload_n X.1 X.2.1 dX9_tells_0 rfl (lv_at hl 1 rfl) ?_
  refine lv_iconst (v := 3) X.1 X.2.1 dX9_tells_1 (by decide) ?_
  refine lv_icmp_ge (tgt := 33) X.1 X.2.1 dX9_tells_2 (by decide) (fun c_1 => ?_) (fun c_1 => ?_)
  · have h := pz_t c_1 h
    refine lv_iload_n X.1 X.2.1 dX9_tells_33 rfl (lv_at hl 1 rfl) ?_
    refine lv_iconst (v := 3) X.1 X.2.1 dX9_tells_34 (by decide) ?_
    refine lv_icmp_ne (tgt := 45) X.1 X.2.1 dX9_tells_35 (by decide) (fun c_2 => ?_) (fun c_2 => ?_)
    · have h := pz_f c_2 h
      refine lv_iload_n X.1 X.2.1 dX9_tells_45 rfl (lv_at hl 1 rfl) ?_
      refine lv_iconst (v := 4) X.1 X.2.1 dX9_tells_46 (by decide) ?_
      refine lv_icmp_ne (tgt := 57) X.1 X.2.1 dX9_tells_47 (by decide) (fun c_3 => ?_) (fun c_3 => ?_)
      · have h := pz_f c_3 h
        refine lv_aload_n X.1 X.2.1 dX9_tells_57 rfl (lv_at hl 0 rfl) ?_
        refine gf_X9_265 X S hn (by decide) dX9_tells_58 ?_
        cases h
        exact r_iret X S dX9_tells_61
      have h := pz_t c_3 h
      refine lv_aload_n X.1 X.2.1 dX9_tells_50 rfl (lv_at hl 0 rfl) ?_
      refine gf_X9_252 X S hn (by decide) dX9_tells_51 ?_
      refine lv_goto (tgt := 61) X.1 X.2.1 dX9_tells_54 (by decide) ?_
      cases h
      exact r_iret X S dX9_tells_61
    have h := pz_t c_2 h
    refine lv_aload_n X.1 X.2.1 dX9_tells_38 rfl (lv_at hl 0 rfl) ?_
    refine gf_X9_258 X S hn (by decide) dX9_tells_39 ?_
    refine lv_goto (tgt := 61) X.1 X.2.1 dX9_tells_42 (by decide) ?_
    cases h
    exact r_iret X S dX9_tells_61
  have h := pz_f c_1 h
  refine lv_iload_n X.1 X.2.1 dX9_tells_5 rfl (lv_at hl 1 rfl) ?_
  refine lv_if_ne (tgt := 16) X.1 X.2.1 dX9_tells_6 (by decide) (fun c_4 => ?_) (fun c_4 => ?_)
  · have h := pz_f c_4 h
    refine lv_iload_n X.1 X.2.1 dX9_tells_16 rfl (lv_at hl 1 rfl) ?_
    refine lv_iconst (v := 1) X.1 X.2.1 dX9_tells_17 (by decide) ?_
    refine lv_icmp_ne (tgt := 28) X.1 X.2.1 dX9_tells_18 (by decide) (fun c_5 => ?_) (fun c_5 => ?_)
    · have h := pz_f c_5 h
      refine lv_aload_n X.1 X.2.1 dX9_tells_28 rfl (lv_at hl 0 rfl) ?_
      refine gf_X9_268 X S hn (by decide) dX9_tells_29 ?_
      cases h
      exact r_iret X S dX9_tells_32
    have h := pz_t c_5 h
    refine lv_aload_n X.1 X.2.1 dX9_tells_21 rfl (lv_at hl 0 rfl) ?_
    obtain ⟨q_6, eq_6, h⟩ := pz_bd_e h
    refine r_Vi X S (c_X9_leftMany hn eq_6) gd_X9_293 ⟨rfl, ny_X9_leftMany⟩ ⟨rfl, rfl⟩ ⟨Nat.le_of_ble_eq_true rfl, Nat.le_of_ble_eq_true rfl⟩ (r_recv X S (ly_ok_9 (by decide) hn) rfl rfl) rfl rfl hl.1 (Nat.le_of_ble_eq_true rfl) dX9_tells_22 (fun H locs S => ?_)
    refine lv_goto (tgt := 32) X.1 X.2.1 dX9_tells_25 (by decide) ?_
    cases h
    exact r_iret X S dX9_tells_32
  have h := pz_t c_4 h
  refine lv_aload_n X.1 X.2.1 dX9_tells_9 rfl (lv_at hl 0 rfl) ?_
  refine gf_X9_255 X S hn (by decide) dX9_tells_10 ?_
  refine lv_goto (tgt := 32) X.1 X.2.1 dX9_tells_13 (by decide) ?_
  cases h
  exact r_iret X S dX9_tells_32
def f_X9_sizeOf_L4 (N : Nat) (p1 : Int32) : Nat → Int32 → Int32 → Option (Int32)
  | 0, _, _ => none
  | cnt + 1, a1, a2 => if a2 ≤ 0 then (some a1) else (pz_lt (a1 + (1 : Int32)) fun x_2 => pz_lt (a2 / (10 : Int32)) fun x_3 => f_X9_sizeOf_L4 N p1 cnt x_2 x_3)
set_option maxRecDepth 100000 in
set_option maxHeartbeats 4000000 in
theorem w_X9_sizeOf_L4 {l : Launch} {G : cx_T} {p : Program} {e : Env} {s : State} {m : MethodId} {args : Array Value} {below : List Frame} {meth : Method} {c : Code} {N n : Nat} {I J : mm_T} {p1 : Int32} (X : cx_ok G p s m args meth c cX9_sizeOf 3 RX9 (some .int)) (hn : 111 ≤ n) {z : Int32} : ∀ (cnt : Nat) {a1 : Int32} {a2 : Int32} {H : Heap} {locs : List Loc} {ls : Array Slot} , f_X9_sizeOf_L4 N p1 cnt a1 a2 = some z → st_ok G n I J s H locs → lv_has ls 3 [(1, .int a1), (2, .int a2)] → W p l e ({ frames := 0, cells := 0, slots := 0, locals := 0 }) s m args below meth c H locs 0 0 (MQ below (ct_qi G n I J z) args s 0 0 (cx_A G)) (F0 m 4 ls []) := by
  intro cnt
  induction cnt with
  | zero =>
    intro a1 a2 H locs ls h
    rw [f_X9_sizeOf_L4] at h
    cases h
  | succ cnt ih =>
    intro a1 a2 H locs ls h S hl
    rw [f_X9_sizeOf_L4] at h
    refine lv_iload_n X.1 X.2.1 dX9_sizeOf_4 rfl (lv_at hl 1 rfl) ?_
    refine lv_if_le (tgt := 19) X.1 X.2.1 dX9_sizeOf_5 (by decide) (fun c_1 => ?_) (fun c_1 => ?_)
    · have h := pz_t c_1 h
      refine lv_iload_n X.1 X.2.1 dX9_sizeOf_19 rfl (lv_at hl 0 rfl) ?_
      cases h
      exact r_iret X S dX9_sizeOf_20
    have h := pz_f c_1 h
    obtain ⟨x_2, ex_2⟩ : ∃ y : Int32, y = (a1 + (1 : Int32)) := ⟨_, rfl⟩
    have h := pz_lt_e h ex_2
    refine lv_iinc (v := x_2) (lv' := [(1, .int x_2), (2, .int a2)]) X.1 X.2.1 dX9_sizeOf_8 hl (k := 0) rfl (by rw [ex_2]; rfl) (by decide) rfl (fun ls hl => ?_)
    refine lv_iload_n X.1 X.2.1 dX9_sizeOf_11 rfl (lv_at hl 1 rfl) ?_
    refine lv_bipush (v := 10) X.1 X.2.1 dX9_sizeOf_12 (by decide) ?_
    refine lv_idiv X.1 X.2.1 dX9_sizeOf_14 (by decide) ?_
    refine lv_topi (fun x_3 ex_3 => ?_)
    have h := pz_lt_e h ex_3
    refine lv_istore_n (lv' := [(2, .int x_3), (1, .int x_2)]) X.1 X.2.1 dX9_sizeOf_15 rfl hl (by decide) rfl (fun ls hl => ?_)
    refine lv_goto (tgt := 4) X.1 X.2.1 dX9_sizeOf_16 (by decide) ?_
    exact ih h S (lv_sub hl [1, 0] rfl)
def f_X9_sizeOf (N : Nat) (p1 : Int32) : Option (Int32) := f_X9_sizeOf_L4 N p1 N (0 : Int32) p1
set_option maxRecDepth 100000 in
set_option maxHeartbeats 4000000 in
theorem c_X9_sizeOf {l : Launch} {G : cx_T} {N n : Nat} {I J : mm_T} {p1 : Int32} {z : Int32} (h : f_X9_sizeOf N p1 = some z) : ct_m l G n yX9_sizeOf cX9_sizeOf 3 (some .int) ({ frames := 0, cells := 0, slots := 0, locals := 0 }) [.int p1] I J (ct_qi G n I J z) := by
  refine ct_en (by decide) (Nat.le_of_ble_eq_true rfl) ?_
  intro p e s m args below meth c ls X S hl
  have X : cx_ok G p s m args meth c cX9_sizeOf 3 RX9 (some .int) := X
  have hl : lv_has ls 3 [(0, .int p1)] := hl
  have hn := S.2.2.2
  unfold f_X9_sizeOf at h
  refine lv_iconst (v := 0) X.1 X.2.1 dX9_sizeOf_0 (by decide) ?_
  refine lv_istore_n (lv' := [(1, .int (0 : Int32)), (0, .int p1)]) X.1 X.2.1 dX9_sizeOf_1 rfl hl (by decide) rfl (fun ls hl => ?_)
  refine lv_iload_n X.1 X.2.1 dX9_sizeOf_2 rfl (lv_at hl 1 rfl) ?_
  refine lv_istore_n (lv' := [(2, .int p1), (1, .int (0 : Int32)), (0, .int p1)]) X.1 X.2.1 dX9_sizeOf_3 rfl hl (by decide) rfl (fun ls hl => ?_)
  exact w_X9_sizeOf_L4 X hn N h S (lv_sub hl [1, 0] rfl)
def f_X9_isRow_L10 (N : Nat) (J : mm_T) (p1 : Int32) : Nat → Int32 → Int32 → Option (Int32)
  | 0, _, _ => none
  | cnt + 1, a2, a3 => if a3 ≤ 0 then (some (1 : Int32)) else (pz_lt ((a3 - a3 / (10 : Int32) * (10 : Int32)) - (1 : Int32)) fun x_3 => pz_bd (f_X9_isSlip N J x_3) fun q_4 => if q_4 = 0 then (some (0 : Int32)) else (if ((a2 >>> (x_3 &&& 31)) &&& (1 : Int32)) = (1 : Int32) then (some (0 : Int32)) else (pz_lt (a2 ||| ((1 : Int32) <<< (x_3 &&& 31))) fun x_7 => pz_lt (a3 / (10 : Int32)) fun x_8 => f_X9_isRow_L10 N J p1 cnt x_7 x_8)))
set_option maxRecDepth 100000 in
set_option maxHeartbeats 4000000 in
theorem w_X9_isRow_L10 {l : Launch} {G : cx_T} {p : Program} {e : Env} {s : State} {m : MethodId} {args : Array Value} {below : List Frame} {meth : Method} {c : Code} {N n : Nat} {I J : mm_T} {p1 : Int32} (X : cx_ok G p s m args meth c cX9_isRow 5 RX9 (some .boolean)) (hn : 144 ≤ n) {z : Int32} : ∀ (cnt : Nat) {a2 : Int32} {a3 : Int32} {H : Heap} {locs : List Loc} {ls : Array Slot} , f_X9_isRow_L10 N J p1 cnt a2 a3 = some z → st_ok G n I J s H locs → lv_has ls 5 [(0, .ref (cx_b G + ly_loc 9 0)), (2, .int a2), (3, .int a3)] → W p l e ({ frames := 2, cells := 0, slots := 0, locals := 46 }) s m args below meth c H locs 0 0 (MQ below (ct_qi G n I J z) args s 0 0 (cx_A G)) (F0 m 10 ls []) := by
  intro cnt
  induction cnt with
  | zero =>
    intro a2 a3 H locs ls h
    rw [f_X9_isRow_L10] at h
    cases h
  | succ cnt ih =>
    intro a2 a3 H locs ls h S hl
    rw [f_X9_isRow_L10] at h
    refine lv_iload_n X.1 X.2.1 dX9_isRow_10 rfl (lv_at hl 2 rfl) ?_
    refine lv_if_le (tgt := 58) X.1 X.2.1 dX9_isRow_11 (by decide) (fun c_2 => ?_) (fun c_2 => ?_)
    · have h := pz_t c_2 h
      refine lv_iconst (v := 1) X.1 X.2.1 dX9_isRow_58 (by decide) ?_
      cases h
      exact r_zret (v := 1) X S rfl dX9_isRow_59
    have h := pz_f c_2 h
    refine lv_iload_n X.1 X.2.1 dX9_isRow_14 rfl (lv_at hl 2 rfl) ?_
    refine lv_bipush (v := 10) X.1 X.2.1 dX9_isRow_15 (by decide) ?_
    refine lv_irem X.1 X.2.1 dX9_isRow_17 (by decide) ?_
    refine lv_iconst (v := 1) X.1 X.2.1 dX9_isRow_18 (by decide) ?_
    refine lv_isub X.1 X.2.1 dX9_isRow_19 ?_
    refine lv_topi (fun x_3 ex_3 => ?_)
    have h := pz_lt_e h ex_3
    refine lv_istore (lv' := [(4, .int x_3), (0, .ref (cx_b G + ly_loc 9 0)), (2, .int a2), (3, .int a3)]) X.1 X.2.1 dX9_isRow_20 hl (by decide) rfl (fun ls hl => ?_)
    refine lv_aload_n X.1 X.2.1 dX9_isRow_22 rfl (lv_at hl 1 rfl) ?_
    refine lv_iload X.1 X.2.1 dX9_isRow_23 (lv_at hl 0 rfl) ?_
    obtain ⟨q_4, eq_4, h⟩ := pz_bd_e h
    refine r_Vi X S (c_X9_isSlip hn eq_4) gd_X9_119 ⟨rfl, ny_X9_isSlip⟩ ⟨rfl, rfl⟩ ⟨Nat.le_of_ble_eq_true rfl, Nat.le_of_ble_eq_true rfl⟩ (r_recv X S (ly_ok_9 (by decide) hn) rfl rfl) rfl rfl hl.1 (Nat.le_of_ble_eq_true rfl) dX9_isRow_25 (fun H locs S => ?_)
    refine lv_if_eq (tgt := 41) X.1 X.2.1 dX9_isRow_28 (by decide) (fun c_5 => ?_) (fun c_5 => ?_)
    · have h := pz_t c_5 h
      refine lv_iconst (v := 0) X.1 X.2.1 dX9_isRow_41 (by decide) ?_
      cases h
      exact r_zret (v := 0) X S rfl dX9_isRow_42
    have h := pz_f c_5 h
    refine lv_iload_n X.1 X.2.1 dX9_isRow_31 rfl (lv_at hl 2 rfl) ?_
    refine lv_iload X.1 X.2.1 dX9_isRow_32 (lv_at hl 0 rfl) ?_
    refine lv_ishr X.1 X.2.1 dX9_isRow_34 ?_
    refine lv_iconst (v := 1) X.1 X.2.1 dX9_isRow_35 (by decide) ?_
    refine lv_iand X.1 X.2.1 dX9_isRow_36 ?_
    refine lv_iconst (v := 1) X.1 X.2.1 dX9_isRow_37 (by decide) ?_
    refine lv_icmp_ne (tgt := 43) X.1 X.2.1 dX9_isRow_38 (by decide) (fun c_6 => ?_) (fun c_6 => ?_)
    · have h := pz_f c_6 h
      refine lv_iload_n X.1 X.2.1 dX9_isRow_43 rfl (lv_at hl 2 rfl) ?_
      refine lv_iconst (v := 1) X.1 X.2.1 dX9_isRow_44 (by decide) ?_
      refine lv_iload X.1 X.2.1 dX9_isRow_45 (lv_at hl 0 rfl) ?_
      refine lv_ishl X.1 X.2.1 dX9_isRow_47 ?_
      refine lv_ior X.1 X.2.1 dX9_isRow_48 ?_
      refine lv_topi (fun x_7 ex_7 => ?_)
      have h := pz_lt_e h ex_7
      refine lv_istore_n (lv' := [(2, .int x_7), (4, .int x_3), (0, .ref (cx_b G + ly_loc 9 0)), (3, .int a3)]) X.1 X.2.1 dX9_isRow_49 rfl hl (by decide) rfl (fun ls hl => ?_)
      refine lv_iload_n X.1 X.2.1 dX9_isRow_50 rfl (lv_at hl 3 rfl) ?_
      refine lv_bipush (v := 10) X.1 X.2.1 dX9_isRow_51 (by decide) ?_
      refine lv_idiv X.1 X.2.1 dX9_isRow_53 (by decide) ?_
      refine lv_topi (fun x_8 ex_8 => ?_)
      have h := pz_lt_e h ex_8
      refine lv_istore_n (lv' := [(3, .int x_8), (2, .int x_7), (4, .int x_3), (0, .ref (cx_b G + ly_loc 9 0))]) X.1 X.2.1 dX9_isRow_54 rfl hl (by decide) rfl (fun ls hl => ?_)
      refine lv_goto (tgt := 10) X.1 X.2.1 dX9_isRow_55 (by decide) ?_
      exact ih h S (lv_sub hl [3, 1, 0] rfl)
    have h := pz_t c_6 h
    refine lv_iconst (v := 0) X.1 X.2.1 dX9_isRow_41 (by decide) ?_
    cases h
    exact r_zret (v := 0) X S rfl dX9_isRow_42
def f_X9_isRow (N : Nat) (J : mm_T) (p1 : Int32) : Option (Int32) := if 0 ≤ p1 then (f_X9_isRow_L10 N J p1 N (0 : Int32) p1) else (some (0 : Int32))
set_option maxRecDepth 100000 in
set_option maxHeartbeats 4000000 in
theorem c_X9_isRow {l : Launch} {G : cx_T} {N n : Nat} {I J : mm_T} {p1 : Int32} (hn : 144 ≤ n) {z : Int32} (h : f_X9_isRow N J p1 = some z) : ct_m l G n yX9_isRow cX9_isRow 5 (some .boolean) ({ frames := 2, cells := 0, slots := 0, locals := 46 }) [.ref (cx_b G + ly_loc 9 0), .int p1] I J (ct_qi G n I J z) := by
  refine ct_en (by decide) (Nat.le_of_ble_eq_true rfl) ?_
  intro p e s m args below meth c ls X S hl
  have X : cx_ok G p s m args meth c cX9_isRow 5 RX9 (some .boolean) := X
  have hl : lv_has ls 5 [(0, .ref (cx_b G + ly_loc 9 0)), (1, .int p1)] := hl
  unfold f_X9_isRow at h
  refine lv_iconst (v := 0) X.1 X.2.1 dX9_isRow_0 (by decide) ?_
  refine lv_istore_n (lv' := [(2, .int (0 : Int32)), (0, .ref (cx_b G + ly_loc 9 0)), (1, .int p1)]) X.1 X.2.1 dX9_isRow_1 rfl hl (by decide) rfl (fun ls hl => ?_)
  refine lv_iload_n X.1 X.2.1 dX9_isRow_2 rfl (lv_at hl 2 rfl) ?_
  refine lv_if_ge (tgt := 8) X.1 X.2.1 dX9_isRow_3 (by decide) (fun c_1 => ?_) (fun c_1 => ?_)
  · have h := pz_t c_1 h
    refine lv_iload_n X.1 X.2.1 dX9_isRow_8 rfl (lv_at hl 2 rfl) ?_
    refine lv_istore_n (lv' := [(3, .int p1), (2, .int (0 : Int32)), (0, .ref (cx_b G + ly_loc 9 0)), (1, .int p1)]) X.1 X.2.1 dX9_isRow_9 rfl hl (by decide) rfl (fun ls hl => ?_)
    exact w_X9_isRow_L10 X hn N h S (lv_sub hl [2, 1, 0] rfl)
  have h := pz_f c_1 h
  refine lv_iconst (v := 0) X.1 X.2.1 dX9_isRow_6 (by decide) ?_
  cases h
  exact r_zret (v := 0) X S rfl dX9_isRow_7
def f_X9_goes_L29 (N : Nat) (p1 : Int32) : Nat → mm_T → Int32 → Int32 → Option (mm_T)
  | 0, _, _, _ => none
  | cnt + 1, J, a1, a3 => if a3 ≤ 0 then (some J) else (if a1 ≤ 0 then (some J) else (pz_gd (decide (¬ a3 = 0)) <| pz_bd (f_X9_calls N J (((a1 / a3) - (a1 / a3) / (10 : Int32) * (10 : Int32)) - (1 : Int32))) fun q_9 => pz_lt (a3 / (10 : Int32)) fun x_10 => f_X9_goes_L29 N p1 cnt q_9 a1 x_10))
set_option maxRecDepth 100000 in
set_option maxHeartbeats 4000000 in
theorem w_X9_goes_L29 {l : Launch} {G : cx_T} {p : Program} {e : Env} {s : State} {m : MethodId} {args : Array Value} {below : List Frame} {meth : Method} {c : Code} {N n : Nat} {I : mm_T} {p1 : Int32} (X : cx_ok G p s m args meth c cX9_goes 4 RX9 none) (hn : 144 ≤ n) {z : mm_T} : ∀ (cnt : Nat) {J : mm_T} {a1 : Int32} {a3 : Int32} {H : Heap} {locs : List Loc} {ls : Array Slot} , f_X9_goes_L29 N p1 cnt J a1 a3 = some z → st_ok G n I J s H locs → lv_has ls 4 [(0, .ref (cx_b G + ly_loc 9 0)), (1, .int a1), (3, .int a3)] → W p l e ({ frames := 69, cells := 0, slots := 0, locals := 2610 }) s m args below meth c H locs 0 0 (MQ below (ct_qv G n I z) args s 0 0 (cx_A G)) (F0 m 29 ls []) := by
  intro cnt
  induction cnt with
  | zero =>
    intro J a1 a3 H locs ls h
    rw [f_X9_goes_L29] at h
    cases h
  | succ cnt ih =>
    intro J a1 a3 H locs ls h S hl
    rw [f_X9_goes_L29] at h
    refine lv_iload_n X.1 X.2.1 dX9_goes_29 rfl (lv_at hl 2 rfl) ?_
    refine lv_if_le (tgt := 57) X.1 X.2.1 dX9_goes_30 (by decide) (fun c_6 => ?_) (fun c_6 => ?_)
    · have h := pz_t c_6 h
      cases h
      exact r_vret X S dX9_goes_57
    have h := pz_f c_6 h
    refine lv_iload_n X.1 X.2.1 dX9_goes_33 rfl (lv_at hl 1 rfl) ?_
    refine lv_if_le (tgt := 57) X.1 X.2.1 dX9_goes_34 (by decide) (fun c_7 => ?_) (fun c_7 => ?_)
    · have h := pz_t c_7 h
      cases h
      exact r_vret X S dX9_goes_57
    have h := pz_f c_7 h
    refine lv_aload_n X.1 X.2.1 dX9_goes_37 rfl (lv_at hl 0 rfl) ?_
    refine lv_iload_n X.1 X.2.1 dX9_goes_38 rfl (lv_at hl 1 rfl) ?_
    refine lv_iload_n X.1 X.2.1 dX9_goes_39 rfl (lv_at hl 2 rfl) ?_
    obtain ⟨g_8, h⟩ := pz_gd_e h
    refine lv_idiv X.1 X.2.1 dX9_goes_40 (of_decide_eq_true g_8) ?_
    refine lv_bipush (v := 10) X.1 X.2.1 dX9_goes_41 (by decide) ?_
    refine lv_irem X.1 X.2.1 dX9_goes_43 (by decide) ?_
    refine lv_iconst (v := 1) X.1 X.2.1 dX9_goes_44 (by decide) ?_
    refine lv_isub X.1 X.2.1 dX9_goes_45 ?_
    obtain ⟨q_9, eq_9, h⟩ := pz_bd_e h
    refine r_Vv X S (c_X9_calls hn eq_9) gd_X9_302 ⟨rfl, ny_X9_calls⟩ ⟨rfl, rfl⟩ ⟨Nat.le_of_ble_eq_true rfl, Nat.le_of_ble_eq_true rfl⟩ (r_recv X S (ly_ok_9 (by decide) hn) rfl rfl) rfl rfl hl.1 (Nat.le_of_ble_eq_true rfl) dX9_goes_46 (fun H locs S => ?_)
    refine lv_iload_n X.1 X.2.1 dX9_goes_49 rfl (lv_at hl 2 rfl) ?_
    refine lv_bipush (v := 10) X.1 X.2.1 dX9_goes_50 (by decide) ?_
    refine lv_idiv X.1 X.2.1 dX9_goes_52 (by decide) ?_
    refine lv_topi (fun x_10 ex_10 => ?_)
    have h := pz_lt_e h ex_10
    refine lv_istore_n (lv' := [(3, .int x_10), (0, .ref (cx_b G + ly_loc 9 0)), (1, .int a1)]) X.1 X.2.1 dX9_goes_53 rfl hl (by decide) rfl (fun ls hl => ?_)
    refine lv_goto (tgt := 29) X.1 X.2.1 dX9_goes_54 (by decide) ?_
    exact ih h S (lv_sub hl [1, 2, 0] rfl)
def f_X9_goes_L8 (N : Nat) (p1 : Int32) : Nat → mm_T → Int32 → Int32 → Int32 → Option (mm_T)
  | 0, _, _, _, _ => none
  | cnt + 1, J, a1, a2, a3 => pz_bd (f_X9_sizeOf N a1) fun q_2 => if q_2 ≤ a3 then (f_X9_goes_L29 N p1 N J a1 a2) else (pz_lt (a2 * (10 : Int32)) fun x_4 => pz_lt (a3 + (1 : Int32)) fun x_5 => f_X9_goes_L8 N p1 cnt J a1 x_4 x_5)
set_option maxRecDepth 100000 in
set_option maxHeartbeats 4000000 in
theorem w_X9_goes_L8 {l : Launch} {G : cx_T} {p : Program} {e : Env} {s : State} {m : MethodId} {args : Array Value} {below : List Frame} {meth : Method} {c : Code} {N n : Nat} {I : mm_T} {p1 : Int32} (X : cx_ok G p s m args meth c cX9_goes 4 RX9 none) (hn : 144 ≤ n) {z : mm_T} : ∀ (cnt : Nat) {J : mm_T} {a1 : Int32} {a2 : Int32} {a3 : Int32} {H : Heap} {locs : List Loc} {ls : Array Slot} , f_X9_goes_L8 N p1 cnt J a1 a2 a3 = some z → st_ok G n I J s H locs → lv_has ls 4 [(0, .ref (cx_b G + ly_loc 9 0)), (1, .int a1), (2, .int a2), (3, .int a3)] → W p l e ({ frames := 69, cells := 0, slots := 0, locals := 2610 }) s m args below meth c H locs 0 0 (MQ below (ct_qv G n I z) args s 0 0 (cx_A G)) (F0 m 8 ls []) := by
  intro cnt
  induction cnt with
  | zero =>
    intro J a1 a2 a3 H locs ls h
    rw [f_X9_goes_L8] at h
    cases h
  | succ cnt ih =>
    intro J a1 a2 a3 H locs ls h S hl
    rw [f_X9_goes_L8] at h
    refine lv_iload_n X.1 X.2.1 dX9_goes_8 rfl (lv_at hl 3 rfl) ?_
    refine lv_iload_n X.1 X.2.1 dX9_goes_9 rfl (lv_at hl 1 rfl) ?_
    obtain ⟨q_2, eq_2, h⟩ := pz_bd_e h
    refine r_Si X S (c_X9_sizeOf eq_2) gd_X9_299 ny_X9_sizeOf ⟨rfl, rfl⟩ ⟨Nat.le_of_ble_eq_true rfl, Nat.le_of_ble_eq_true rfl⟩ rfl rfl hl.1 (Nat.le_of_ble_eq_true rfl) dX9_goes_10 (fun H locs S => ?_)
    refine lv_icmp_ge (tgt := 27) X.1 X.2.1 dX9_goes_13 (by decide) (fun c_3 => ?_) (fun c_3 => ?_)
    · have h := pz_t c_3 h
      refine lv_iload_n X.1 X.2.1 dX9_goes_27 rfl (lv_at hl 2 rfl) ?_
      refine lv_istore_n (lv' := [(3, .int a2), (0, .ref (cx_b G + ly_loc 9 0)), (1, .int a1), (2, .int a2)]) X.1 X.2.1 dX9_goes_28 rfl hl (by decide) rfl (fun ls hl => ?_)
      exact w_X9_goes_L29 X hn N h S (lv_sub hl [1, 2, 0] rfl)
    have h := pz_f c_3 h
    refine lv_iload_n X.1 X.2.1 dX9_goes_16 rfl (lv_at hl 2 rfl) ?_
    refine lv_bipush (v := 10) X.1 X.2.1 dX9_goes_17 (by decide) ?_
    refine lv_imul X.1 X.2.1 dX9_goes_19 ?_
    refine lv_topi (fun x_4 ex_4 => ?_)
    have h := pz_lt_e h ex_4
    refine lv_istore_n (lv' := [(2, .int x_4), (0, .ref (cx_b G + ly_loc 9 0)), (1, .int a1), (3, .int a3)]) X.1 X.2.1 dX9_goes_20 rfl hl (by decide) rfl (fun ls hl => ?_)
    obtain ⟨x_5, ex_5⟩ : ∃ y : Int32, y = (a3 + (1 : Int32)) := ⟨_, rfl⟩
    have h := pz_lt_e h ex_5
    refine lv_iinc (v := x_5) (lv' := [(3, .int x_5), (2, .int x_4), (0, .ref (cx_b G + ly_loc 9 0)), (1, .int a1)]) X.1 X.2.1 dX9_goes_21 hl (k := 3) rfl (by rw [ex_5]; rfl) (by decide) rfl (fun ls hl => ?_)
    refine lv_goto (tgt := 8) X.1 X.2.1 dX9_goes_24 (by decide) ?_
    exact ih h S (lv_sub hl [2, 3, 1, 0] rfl)
def f_X9_goes (N : Nat) (J : mm_T) (p1 : Int32) : Option (mm_T) := pz_bd (f_X9_begins N J) fun q_1 => f_X9_goes_L8 N p1 N q_1 p1 (1 : Int32) (1 : Int32)
set_option maxRecDepth 100000 in
set_option maxHeartbeats 4000000 in
theorem c_X9_goes {l : Launch} {G : cx_T} {N n : Nat} {I J : mm_T} {p1 : Int32} (hn : 144 ≤ n) {z : mm_T} (h : f_X9_goes N J p1 = some z) : ct_m l G n yX9_goes cX9_goes 4 none ({ frames := 69, cells := 0, slots := 0, locals := 2610 }) [.ref (cx_b G + ly_loc 9 0), .int p1] I J (ct_qv G n I z) := by
  refine ct_en (by decide) (Nat.le_of_ble_eq_true rfl) ?_
  intro p e s m args below meth c ls X S hl
  have X : cx_ok G p s m args meth c cX9_goes 4 RX9 none := X
  have hl : lv_has ls 4 [(0, .ref (cx_b G + ly_loc 9 0)), (1, .int p1)] := hl
  unfold f_X9_goes at h
  refine lv_aload_n X.1 X.2.1 dX9_goes_0 rfl (lv_at hl 0 rfl) ?_
  obtain ⟨q_1, eq_1, h⟩ := pz_bd_e h
  refine r_Vv X S (c_X9_begins hn eq_1) gd_X9_296 ⟨rfl, ny_X9_begins⟩ ⟨rfl, rfl⟩ ⟨Nat.le_of_ble_eq_true rfl, Nat.le_of_ble_eq_true rfl⟩ (r_recv X S (ly_ok_9 (by decide) hn) rfl rfl) rfl rfl hl.1 (Nat.le_of_ble_eq_true rfl) dX9_goes_1 (fun H locs S => ?_)
  refine lv_iconst (v := 1) X.1 X.2.1 dX9_goes_4 (by decide) ?_
  refine lv_istore_n (lv' := [(2, .int (1 : Int32)), (0, .ref (cx_b G + ly_loc 9 0)), (1, .int p1)]) X.1 X.2.1 dX9_goes_5 rfl hl (by decide) rfl (fun ls hl => ?_)
  refine lv_iconst (v := 1) X.1 X.2.1 dX9_goes_6 (by decide) ?_
  refine lv_istore_n (lv' := [(3, .int (1 : Int32)), (2, .int (1 : Int32)), (0, .ref (cx_b G + ly_loc 9 0)), (1, .int p1)]) X.1 X.2.1 dX9_goes_7 rfl hl (by decide) rfl (fun ls hl => ?_)
  exact w_X9_goes_L8 X hn N h S (lv_sub hl [2, 3, 1, 0] rfl)
def f_X9_evening (N : Nat) (J : mm_T) (p1 : Int32) (p2 : Int32) : Option (mm_T × Int32) := pz_bd (f_X9_isRow N J p1) fun q_1 => if q_1 = 0 then (some (J, (-100000 : Int32))) else (pz_bd (f_X9_in N (p2.toInt64) (0 : Int64) (5 : Int64)) fun q_3 => if q_3 = 0 then (some (J, (-100000 : Int32))) else (pz_bd (f_X9_goes N J p1) fun q_5 => pz_bd (f_X9_tells N q_5 p2) fun q_6 => some (q_5, q_6)))
set_option maxRecDepth 100000 in
set_option maxHeartbeats 4000000 in
theorem c_X9_evening {l : Launch} {G : cx_T} {N n : Nat} {I J : mm_T} {p1 : Int32} {p2 : Int32} (hn : 144 ≤ n) {z : mm_T × Int32} (h : f_X9_evening N J p1 p2 = some z) : ct_m l G n yX9_evening cX9_evening 3 (some .int) ({ frames := 70, cells := 0, slots := 0, locals := 2633 }) [.ref (cx_b G + ly_loc 9 0), .int p1, .int p2] I J (ct_qi G n I z.1 z.2) := by
  refine ct_en (by decide) (Nat.le_of_ble_eq_true rfl) ?_
  intro p e s m args below meth c ls X S hl
  have X : cx_ok G p s m args meth c cX9_evening 3 RX9 (some .int) := X
  have hl : lv_has ls 3 [(0, .ref (cx_b G + ly_loc 9 0)), (1, .int p1), (2, .int p2)] := hl
  unfold f_X9_evening at h
  refine lv_aload_n X.1 X.2.1 dX9_evening_0 rfl (lv_at hl 0 rfl) ?_
  refine lv_iload_n X.1 X.2.1 dX9_evening_1 rfl (lv_at hl 1 rfl) ?_
  obtain ⟨q_1, eq_1, h⟩ := pz_bd_e h
  refine r_Vi X S (c_X9_isRow hn eq_1) gd_X9_306 ⟨rfl, ny_X9_isRow⟩ ⟨rfl, rfl⟩ ⟨Nat.le_of_ble_eq_true rfl, Nat.le_of_ble_eq_true rfl⟩ (r_recv X S (ly_ok_9 (by decide) hn) rfl rfl) rfl rfl hl.1 (Nat.le_of_ble_eq_true rfl) dX9_evening_2 (fun H locs S => ?_)
  refine lv_if_eq (tgt := 20) X.1 X.2.1 dX9_evening_5 (by decide) (fun c_2 => ?_) (fun c_2 => ?_)
  · have h := pz_t c_2 h
    refine lv_ldc (v := -100000) X.1 X.2.1 X.2.2.2.1 (X.2.2.2.2.1 _ kw_X9_122) dX9_evening_20 ?_
    cases h
    exact r_iret X S dX9_evening_22
  have h := pz_f c_2 h
  refine lv_iload_n X.1 X.2.1 dX9_evening_8 rfl (lv_at hl 2 rfl) ?_
  refine lv_i2l X.1 X.2.1 dX9_evening_9 rfl ?_
  refine lv_lconst (v := 0) X.1 X.2.1 dX9_evening_10 (by decide) ?_
  refine lv_ldc2 (v := 5) X.1 X.2.1 X.2.2.2.1 (X.2.2.2.2.1 _ kw_X9_105) dX9_evening_11 ?_
  obtain ⟨q_3, eq_3, h⟩ := pz_bd_e h
  refine r_Si X S (c_X9_in eq_3) gd_X9_94 ny_X9_in ⟨rfl, rfl⟩ ⟨Nat.le_of_ble_eq_true rfl, Nat.le_of_ble_eq_true rfl⟩ rfl rfl hl.1 (Nat.le_of_ble_eq_true rfl) dX9_evening_14 (fun H locs S => ?_)
  refine lv_if_ne (tgt := 23) X.1 X.2.1 dX9_evening_17 (by decide) (fun c_4 => ?_) (fun c_4 => ?_)
  · have h := pz_f c_4 h
    refine lv_aload_n X.1 X.2.1 dX9_evening_23 rfl (lv_at hl 0 rfl) ?_
    refine lv_iload_n X.1 X.2.1 dX9_evening_24 rfl (lv_at hl 1 rfl) ?_
    obtain ⟨q_5, eq_5, h⟩ := pz_bd_e h
    refine r_Vv X S (c_X9_goes hn eq_5) gd_X9_309 ⟨rfl, ny_X9_goes⟩ ⟨rfl, rfl⟩ ⟨Nat.le_of_ble_eq_true rfl, Nat.le_of_ble_eq_true rfl⟩ (r_recv X S (ly_ok_9 (by decide) hn) rfl rfl) rfl rfl hl.1 (Nat.le_of_ble_eq_true rfl) dX9_evening_25 (fun H locs S => ?_)
    refine lv_aload_n X.1 X.2.1 dX9_evening_28 rfl (lv_at hl 0 rfl) ?_
    refine lv_iload_n X.1 X.2.1 dX9_evening_29 rfl (lv_at hl 2 rfl) ?_
    obtain ⟨q_6, eq_6, h⟩ := pz_bd_e h
    refine r_Vi X S (c_X9_tells hn eq_6) gd_X9_312 ⟨rfl, ny_X9_tells⟩ ⟨rfl, rfl⟩ ⟨Nat.le_of_ble_eq_true rfl, Nat.le_of_ble_eq_true rfl⟩ (r_recv X S (ly_ok_9 (by decide) hn) rfl rfl) rfl rfl hl.1 (Nat.le_of_ble_eq_true rfl) dX9_evening_30 (fun H locs S => ?_)
    cases h
    exact r_iret X S dX9_evening_33
  have h := pz_t c_4 h
  refine lv_ldc (v := -100000) X.1 X.2.1 X.2.2.2.1 (X.2.2.2.2.1 _ kw_X9_122) dX9_evening_20 ?_
  cases h
  exact r_iret X S dX9_evening_22
def f_X9_hold (N : Nat) (J : mm_T) (p1 : Int32) : Option (mm_T × Int32) := pz_bd (f_X9_isRow N J p1) fun q_1 => if q_1 = 0 then (some (J, (-100000 : Int32))) else (pz_bd (f_X9_goes N J p1) fun q_3 => pz_lt (mm_up q_3 9 0 15 (q_3 9 0 33)) fun J_4 => some (J_4, (J_4 9 0 34)))
set_option maxRecDepth 100000 in
set_option maxHeartbeats 4000000 in
theorem c_X9_hold {l : Launch} {G : cx_T} {N n : Nat} {I J : mm_T} {p1 : Int32} (hn : 144 ≤ n) {z : mm_T × Int32} (h : f_X9_hold N J p1 = some z) : ct_m l G n yX9_hold cX9_hold 2 (some .int) ({ frames := 70, cells := 0, slots := 0, locals := 2633 }) [.ref (cx_b G + ly_loc 9 0), .int p1] I J (ct_qi G n I z.1 z.2) := by
  refine ct_en (by decide) (Nat.le_of_ble_eq_true rfl) ?_
  intro p e s m args below meth c ls X S hl
  have X : cx_ok G p s m args meth c cX9_hold 2 RX9 (some .int) := X
  have hl : lv_has ls 2 [(0, .ref (cx_b G + ly_loc 9 0)), (1, .int p1)] := hl
  unfold f_X9_hold at h
  refine lv_aload_n X.1 X.2.1 dX9_hold_0 rfl (lv_at hl 0 rfl) ?_
  refine lv_iload_n X.1 X.2.1 dX9_hold_1 rfl (lv_at hl 1 rfl) ?_
  obtain ⟨q_1, eq_1, h⟩ := pz_bd_e h
  refine r_Vi X S (c_X9_isRow hn eq_1) gd_X9_306 ⟨rfl, ny_X9_isRow⟩ ⟨rfl, rfl⟩ ⟨Nat.le_of_ble_eq_true rfl, Nat.le_of_ble_eq_true rfl⟩ (r_recv X S (ly_ok_9 (by decide) hn) rfl rfl) rfl rfl hl.1 (Nat.le_of_ble_eq_true rfl) dX9_hold_2 (fun H locs S => ?_)
  refine lv_if_ne (tgt := 11) X.1 X.2.1 dX9_hold_5 (by decide) (fun c_2 => ?_) (fun c_2 => ?_)
  · have h := pz_f c_2 h
    refine lv_aload_n X.1 X.2.1 dX9_hold_11 rfl (lv_at hl 0 rfl) ?_
    refine lv_iload_n X.1 X.2.1 dX9_hold_12 rfl (lv_at hl 1 rfl) ?_
    obtain ⟨q_3, eq_3, h⟩ := pz_bd_e h
    refine r_Vv X S (c_X9_goes hn eq_3) gd_X9_309 ⟨rfl, ny_X9_goes⟩ ⟨rfl, rfl⟩ ⟨Nat.le_of_ble_eq_true rfl, Nat.le_of_ble_eq_true rfl⟩ (r_recv X S (ly_ok_9 (by decide) hn) rfl rfl) rfl rfl hl.1 (Nat.le_of_ble_eq_true rfl) dX9_hold_13 (fun H locs S => ?_)
    refine lv_aload_n X.1 X.2.1 dX9_hold_16 rfl (lv_at hl 0 rfl) ?_
    refine lv_aload_n X.1 X.2.1 dX9_hold_17 rfl (lv_at hl 0 rfl) ?_
    refine gf_X9_258 X S hn (by decide) dX9_hold_18 ?_
    refine pf_X9_127 X S hn (by decide) dX9_hold_21 (fun J_4 H locs eJ_4 S => ?_)
    have h := pz_lt_e h eJ_4
    refine lv_aload_n X.1 X.2.1 dX9_hold_24 rfl (lv_at hl 0 rfl) ?_
    refine gf_X9_255 X S hn (by decide) dX9_hold_25 ?_
    cases h
    exact r_iret X S dX9_hold_28
  have h := pz_t c_2 h
  refine lv_ldc (v := -100000) X.1 X.2.1 X.2.2.2.1 (X.2.2.2.2.1 _ kw_X9_122) dX9_hold_8 ?_
  cases h
  exact r_iret X S dX9_hold_10
def f_X9_lays_L90 (N : Nat) (p1 : Int32) : Nat → mm_T → Int32 → Int32 → Option (mm_T)
  | 0, _, _, _ => none
  | cnt + 1, J, a1, a3 => if (8 : Int32) ≤ a3 then (some J) else (pz_gd (ix_in a3 8) <| pz_gd (ix_in (((8 : Int32) * a1) + a3) 64) <| pz_lt (mm_up J 43 0 (((8 : Int32) * a1) + a3).toNatClampNeg (J 39 0 a3.toNatClampNeg)) fun J_19 => pz_gd (ix_in a3 8) <| pz_gd (ix_in (((8 : Int32) * a1) + a3) 64) <| pz_lt (mm_up J_19 44 0 (((8 : Int32) * a1) + a3).toNatClampNeg (J_19 40 0 a3.toNatClampNeg)) fun J_22 => pz_lt (a3 + (1 : Int32)) fun x_23 => f_X9_lays_L90 N p1 cnt J_22 a1 x_23)
set_option maxRecDepth 100000 in
set_option maxHeartbeats 4000000 in
theorem w_X9_lays_L90 {l : Launch} {G : cx_T} {p : Program} {e : Env} {s : State} {m : MethodId} {args : Array Value} {below : List Frame} {meth : Method} {c : Code} {N n : Nat} {I : mm_T} {p1 : Int32} (X : cx_ok G p s m args meth c cX9_lays 4 RX9 none) (hn : 144 ≤ n) {z : mm_T} : ∀ (cnt : Nat) {J : mm_T} {a1 : Int32} {a3 : Int32} {H : Heap} {locs : List Loc} {ls : Array Slot} , f_X9_lays_L90 N p1 cnt J a1 a3 = some z → st_ok G n I J s H locs → lv_has ls 4 [(0, .ref (cx_b G + ly_loc 9 0)), (1, .int a1), (3, .int a3)] → W p l e ({ frames := 0, cells := 0, slots := 0, locals := 0 }) s m args below meth c H locs 0 0 (MQ below (ct_qv G n I z) args s 0 0 (cx_A G)) (F0 m 90 ls []) := by
  intro cnt
  induction cnt with
  | zero =>
    intro J a1 a3 H locs ls h
    rw [f_X9_lays_L90] at h
    cases h
  | succ cnt ih =>
    intro J a1 a3 H locs ls h S hl
    rw [f_X9_lays_L90] at h
    refine lv_iload_n X.1 X.2.1 dX9_lays_90 rfl (lv_at hl 2 rfl) ?_
    refine lv_bipush (v := 8) X.1 X.2.1 dX9_lays_91 (by decide) ?_
    refine lv_icmp_ge (tgt := 136) X.1 X.2.1 dX9_lays_93 (by decide) (fun c_16 => ?_) (fun c_16 => ?_)
    · have h := pz_t c_16 h
      cases h
      exact r_vret X S dX9_lays_136
    have h := pz_f c_16 h
    refine lv_aload_n X.1 X.2.1 dX9_lays_96 rfl (lv_at hl 0 rfl) ?_
    refine gf_X9_56 X S hn (by decide) dX9_lays_97 ?_
    refine lv_bipush (v := 8) X.1 X.2.1 dX9_lays_100 (by decide) ?_
    refine lv_iload_n X.1 X.2.1 dX9_lays_102 rfl (lv_at hl 1 rfl) ?_
    refine lv_imul X.1 X.2.1 dX9_lays_103 ?_
    refine lv_iload_n X.1 X.2.1 dX9_lays_104 rfl (lv_at hl 2 rfl) ?_
    refine lv_iadd X.1 X.2.1 dX9_lays_105 ?_
    refine lv_aload_n X.1 X.2.1 dX9_lays_106 rfl (lv_at hl 0 rfl) ?_
    refine gf_X9_44 X S hn (by decide) dX9_lays_107 ?_
    refine lv_iload_n X.1 X.2.1 dX9_lays_110 rfl (lv_at hl 2 rfl) ?_
    obtain ⟨g_17, h⟩ := pz_gd_e h
    refine al_39 X S hn (by decide) g_17 dX9_lays_111 ?_
    obtain ⟨g_18, h⟩ := pz_gd_e h
    refine as_43 X S hn (by decide) g_18 dX9_lays_112 (fun J_19 H locs eJ_19 S => ?_)
    have h := pz_lt_e h eJ_19
    refine lv_aload_n X.1 X.2.1 dX9_lays_113 rfl (lv_at hl 0 rfl) ?_
    refine gf_X9_59 X S hn (by decide) dX9_lays_114 ?_
    refine lv_bipush (v := 8) X.1 X.2.1 dX9_lays_117 (by decide) ?_
    refine lv_iload_n X.1 X.2.1 dX9_lays_119 rfl (lv_at hl 1 rfl) ?_
    refine lv_imul X.1 X.2.1 dX9_lays_120 ?_
    refine lv_iload_n X.1 X.2.1 dX9_lays_121 rfl (lv_at hl 2 rfl) ?_
    refine lv_iadd X.1 X.2.1 dX9_lays_122 ?_
    refine lv_aload_n X.1 X.2.1 dX9_lays_123 rfl (lv_at hl 0 rfl) ?_
    refine gf_X9_47 X S hn (by decide) dX9_lays_124 ?_
    refine lv_iload_n X.1 X.2.1 dX9_lays_127 rfl (lv_at hl 2 rfl) ?_
    obtain ⟨g_20, h⟩ := pz_gd_e h
    refine al_40 X S hn (by decide) g_20 dX9_lays_128 ?_
    obtain ⟨g_21, h⟩ := pz_gd_e h
    refine as_44 X S hn (by decide) g_21 dX9_lays_129 (fun J_22 H locs eJ_22 S => ?_)
    have h := pz_lt_e h eJ_22
    obtain ⟨x_23, ex_23⟩ : ∃ y : Int32, y = (a3 + (1 : Int32)) := ⟨_, rfl⟩
    have h := pz_lt_e h ex_23
    refine lv_iinc (v := x_23) (lv' := [(3, .int x_23), (0, .ref (cx_b G + ly_loc 9 0)), (1, .int a1)]) X.1 X.2.1 dX9_lays_130 hl (k := 2) rfl (by rw [ex_23]; rfl) (by decide) rfl (fun ls hl => ?_)
    refine lv_goto (tgt := 90) X.1 X.2.1 dX9_lays_133 (by decide) ?_
    exact ih h S (lv_sub hl [1, 2, 0] rfl)
def f_X9_lays (N : Nat) (J : mm_T) (p1 : Int32) : Option (mm_T) := pz_lt ((7 : Int32) * p1) fun x_1 => pz_gd (ix_in x_1 56) <| pz_lt (mm_up J 42 0 x_1.toNatClampNeg (J 9 0 32)) fun J_3 => pz_gd (ix_in (x_1 + (1 : Int32)) 56) <| pz_lt (mm_up J_3 42 0 (x_1 + (1 : Int32)).toNatClampNeg (J_3 9 0 33)) fun J_5 => pz_gd (ix_in (x_1 + (2 : Int32)) 56) <| pz_lt (mm_up J_5 42 0 (x_1 + (2 : Int32)).toNatClampNeg (J_5 9 0 34)) fun J_7 => pz_gd (ix_in (x_1 + (3 : Int32)) 56) <| pz_lt (mm_up J_7 42 0 (x_1 + (3 : Int32)).toNatClampNeg (J_7 9 0 35)) fun J_9 => pz_gd (ix_in (x_1 + (4 : Int32)) 56) <| pz_lt (mm_up J_9 42 0 (x_1 + (4 : Int32)).toNatClampNeg (J_9 9 0 36)) fun J_11 => pz_gd (ix_in (x_1 + (5 : Int32)) 56) <| pz_lt (mm_up J_11 42 0 (x_1 + (5 : Int32)).toNatClampNeg (J_11 9 0 39)) fun J_13 => pz_gd (ix_in (x_1 + (6 : Int32)) 56) <| pz_lt (mm_up J_13 42 0 (x_1 + (6 : Int32)).toNatClampNeg (J_13 9 0 40)) fun J_15 => f_X9_lays_L90 N p1 N J_15 p1 (0 : Int32)
set_option maxRecDepth 100000 in
set_option maxHeartbeats 4000000 in
theorem c_X9_lays {l : Launch} {G : cx_T} {N n : Nat} {I J : mm_T} {p1 : Int32} (hn : 144 ≤ n) {z : mm_T} (h : f_X9_lays N J p1 = some z) : ct_m l G n yX9_lays cX9_lays 4 none ({ frames := 0, cells := 0, slots := 0, locals := 0 }) [.ref (cx_b G + ly_loc 9 0), .int p1] I J (ct_qv G n I z) := by
  refine ct_en (by decide) (Nat.le_of_ble_eq_true rfl) ?_
  intro p e s m args below meth c ls X S hl
  have X : cx_ok G p s m args meth c cX9_lays 4 RX9 none := X
  have hl : lv_has ls 4 [(0, .ref (cx_b G + ly_loc 9 0)), (1, .int p1)] := hl
  unfold f_X9_lays at h
  refine lv_bipush (v := 7) X.1 X.2.1 dX9_lays_0 (by decide) ?_
  refine lv_iload_n X.1 X.2.1 dX9_lays_2 rfl (lv_at hl 1 rfl) ?_
  refine lv_imul X.1 X.2.1 dX9_lays_3 ?_
  refine lv_topi (fun x_1 ex_1 => ?_)
  have h := pz_lt_e h ex_1
  refine lv_istore_n (lv' := [(2, .int x_1), (0, .ref (cx_b G + ly_loc 9 0)), (1, .int p1)]) X.1 X.2.1 dX9_lays_4 rfl hl (by decide) rfl (fun ls hl => ?_)
  refine lv_aload_n X.1 X.2.1 dX9_lays_5 rfl (lv_at hl 1 rfl) ?_
  refine gf_X9_53 X S hn (by decide) dX9_lays_6 ?_
  refine lv_iload_n X.1 X.2.1 dX9_lays_9 rfl (lv_at hl 0 rfl) ?_
  refine lv_aload_n X.1 X.2.1 dX9_lays_10 rfl (lv_at hl 1 rfl) ?_
  refine gf_X9_252 X S hn (by decide) dX9_lays_11 ?_
  obtain ⟨g_2, h⟩ := pz_gd_e h
  refine as_42 X S hn (by decide) g_2 dX9_lays_14 (fun J_3 H locs eJ_3 S => ?_)
  have h := pz_lt_e h eJ_3
  refine lv_aload_n X.1 X.2.1 dX9_lays_15 rfl (lv_at hl 1 rfl) ?_
  refine gf_X9_53 X S hn (by decide) dX9_lays_16 ?_
  refine lv_iload_n X.1 X.2.1 dX9_lays_19 rfl (lv_at hl 0 rfl) ?_
  refine lv_iconst (v := 1) X.1 X.2.1 dX9_lays_20 (by decide) ?_
  refine lv_iadd X.1 X.2.1 dX9_lays_21 ?_
  refine lv_aload_n X.1 X.2.1 dX9_lays_22 rfl (lv_at hl 1 rfl) ?_
  refine gf_X9_258 X S hn (by decide) dX9_lays_23 ?_
  obtain ⟨g_4, h⟩ := pz_gd_e h
  refine as_42 X S hn (by decide) g_4 dX9_lays_26 (fun J_5 H locs eJ_5 S => ?_)
  have h := pz_lt_e h eJ_5
  refine lv_aload_n X.1 X.2.1 dX9_lays_27 rfl (lv_at hl 1 rfl) ?_
  refine gf_X9_53 X S hn (by decide) dX9_lays_28 ?_
  refine lv_iload_n X.1 X.2.1 dX9_lays_31 rfl (lv_at hl 0 rfl) ?_
  refine lv_iconst (v := 2) X.1 X.2.1 dX9_lays_32 (by decide) ?_
  refine lv_iadd X.1 X.2.1 dX9_lays_33 ?_
  refine lv_aload_n X.1 X.2.1 dX9_lays_34 rfl (lv_at hl 1 rfl) ?_
  refine gf_X9_255 X S hn (by decide) dX9_lays_35 ?_
  obtain ⟨g_6, h⟩ := pz_gd_e h
  refine as_42 X S hn (by decide) g_6 dX9_lays_38 (fun J_7 H locs eJ_7 S => ?_)
  have h := pz_lt_e h eJ_7
  refine lv_aload_n X.1 X.2.1 dX9_lays_39 rfl (lv_at hl 1 rfl) ?_
  refine gf_X9_53 X S hn (by decide) dX9_lays_40 ?_
  refine lv_iload_n X.1 X.2.1 dX9_lays_43 rfl (lv_at hl 0 rfl) ?_
  refine lv_iconst (v := 3) X.1 X.2.1 dX9_lays_44 (by decide) ?_
  refine lv_iadd X.1 X.2.1 dX9_lays_45 ?_
  refine lv_aload_n X.1 X.2.1 dX9_lays_46 rfl (lv_at hl 1 rfl) ?_
  refine gf_X9_265 X S hn (by decide) dX9_lays_47 ?_
  obtain ⟨g_8, h⟩ := pz_gd_e h
  refine as_42 X S hn (by decide) g_8 dX9_lays_50 (fun J_9 H locs eJ_9 S => ?_)
  have h := pz_lt_e h eJ_9
  refine lv_aload_n X.1 X.2.1 dX9_lays_51 rfl (lv_at hl 1 rfl) ?_
  refine gf_X9_53 X S hn (by decide) dX9_lays_52 ?_
  refine lv_iload_n X.1 X.2.1 dX9_lays_55 rfl (lv_at hl 0 rfl) ?_
  refine lv_iconst (v := 4) X.1 X.2.1 dX9_lays_56 (by decide) ?_
  refine lv_iadd X.1 X.2.1 dX9_lays_57 ?_
  refine lv_aload_n X.1 X.2.1 dX9_lays_58 rfl (lv_at hl 1 rfl) ?_
  refine gf_X9_268 X S hn (by decide) dX9_lays_59 ?_
  obtain ⟨g_10, h⟩ := pz_gd_e h
  refine as_42 X S hn (by decide) g_10 dX9_lays_62 (fun J_11 H locs eJ_11 S => ?_)
  have h := pz_lt_e h eJ_11
  refine lv_aload_n X.1 X.2.1 dX9_lays_63 rfl (lv_at hl 1 rfl) ?_
  refine gf_X9_53 X S hn (by decide) dX9_lays_64 ?_
  refine lv_iload_n X.1 X.2.1 dX9_lays_67 rfl (lv_at hl 0 rfl) ?_
  refine lv_iconst (v := 5) X.1 X.2.1 dX9_lays_68 (by decide) ?_
  refine lv_iadd X.1 X.2.1 dX9_lays_69 ?_
  refine lv_aload_n X.1 X.2.1 dX9_lays_70 rfl (lv_at hl 1 rfl) ?_
  refine gf_X9_271 X S hn (by decide) dX9_lays_71 ?_
  obtain ⟨g_12, h⟩ := pz_gd_e h
  refine as_42 X S hn (by decide) g_12 dX9_lays_74 (fun J_13 H locs eJ_13 S => ?_)
  have h := pz_lt_e h eJ_13
  refine lv_aload_n X.1 X.2.1 dX9_lays_75 rfl (lv_at hl 1 rfl) ?_
  refine gf_X9_53 X S hn (by decide) dX9_lays_76 ?_
  refine lv_iload_n X.1 X.2.1 dX9_lays_79 rfl (lv_at hl 0 rfl) ?_
  refine lv_bipush (v := 6) X.1 X.2.1 dX9_lays_80 (by decide) ?_
  refine lv_iadd X.1 X.2.1 dX9_lays_82 ?_
  refine lv_aload_n X.1 X.2.1 dX9_lays_83 rfl (lv_at hl 1 rfl) ?_
  refine gf_X9_274 X S hn (by decide) dX9_lays_84 ?_
  obtain ⟨g_14, h⟩ := pz_gd_e h
  refine as_42 X S hn (by decide) g_14 dX9_lays_87 (fun J_15 H locs eJ_15 S => ?_)
  have h := pz_lt_e h eJ_15
  refine lv_iconst (v := 0) X.1 X.2.1 dX9_lays_88 (by decide) ?_
  refine lv_istore_n (lv' := [(3, .int (0 : Int32)), (2, .int x_1), (0, .ref (cx_b G + ly_loc 9 0)), (1, .int p1)]) X.1 X.2.1 dX9_lays_89 rfl hl (by decide) rfl (fun ls hl => ?_)
  exact w_X9_lays_L90 X hn N h S (lv_sub hl [2, 3, 0] rfl)
def f_X9_laysBack_L90 (N : Nat) (p1 : Int32) : Nat → mm_T → Int32 → Int32 → Option (mm_T)
  | 0, _, _, _ => none
  | cnt + 1, J, a1, a3 => if (8 : Int32) ≤ a3 then (some J) else (pz_gd (ix_in (((8 : Int32) * a1) + a3) 64) <| pz_gd (ix_in a3 8) <| pz_lt (mm_up J 39 0 a3.toNatClampNeg (J 43 0 (((8 : Int32) * a1) + a3).toNatClampNeg)) fun J_19 => pz_gd (ix_in (((8 : Int32) * a1) + a3) 64) <| pz_gd (ix_in a3 8) <| pz_lt (mm_up J_19 40 0 a3.toNatClampNeg (J_19 44 0 (((8 : Int32) * a1) + a3).toNatClampNeg)) fun J_22 => pz_lt (a3 + (1 : Int32)) fun x_23 => f_X9_laysBack_L90 N p1 cnt J_22 a1 x_23)
set_option maxRecDepth 100000 in
set_option maxHeartbeats 4000000 in
theorem w_X9_laysBack_L90 {l : Launch} {G : cx_T} {p : Program} {e : Env} {s : State} {m : MethodId} {args : Array Value} {below : List Frame} {meth : Method} {c : Code} {N n : Nat} {I : mm_T} {p1 : Int32} (X : cx_ok G p s m args meth c cX9_laysBack 4 RX9 none) (hn : 144 ≤ n) {z : mm_T} : ∀ (cnt : Nat) {J : mm_T} {a1 : Int32} {a3 : Int32} {H : Heap} {locs : List Loc} {ls : Array Slot} , f_X9_laysBack_L90 N p1 cnt J a1 a3 = some z → st_ok G n I J s H locs → lv_has ls 4 [(0, .ref (cx_b G + ly_loc 9 0)), (1, .int a1), (3, .int a3)] → W p l e ({ frames := 0, cells := 0, slots := 0, locals := 0 }) s m args below meth c H locs 0 0 (MQ below (ct_qv G n I z) args s 0 0 (cx_A G)) (F0 m 90 ls []) := by
  intro cnt
  induction cnt with
  | zero =>
    intro J a1 a3 H locs ls h
    rw [f_X9_laysBack_L90] at h
    cases h
  | succ cnt ih =>
    intro J a1 a3 H locs ls h S hl
    rw [f_X9_laysBack_L90] at h
    refine lv_iload_n X.1 X.2.1 dX9_laysBack_90 rfl (lv_at hl 2 rfl) ?_
    refine lv_bipush (v := 8) X.1 X.2.1 dX9_laysBack_91 (by decide) ?_
    refine lv_icmp_ge (tgt := 136) X.1 X.2.1 dX9_laysBack_93 (by decide) (fun c_16 => ?_) (fun c_16 => ?_)
    · have h := pz_t c_16 h
      cases h
      exact r_vret X S dX9_laysBack_136
    have h := pz_f c_16 h
    refine lv_aload_n X.1 X.2.1 dX9_laysBack_96 rfl (lv_at hl 0 rfl) ?_
    refine gf_X9_44 X S hn (by decide) dX9_laysBack_97 ?_
    refine lv_iload_n X.1 X.2.1 dX9_laysBack_100 rfl (lv_at hl 2 rfl) ?_
    refine lv_aload_n X.1 X.2.1 dX9_laysBack_101 rfl (lv_at hl 0 rfl) ?_
    refine gf_X9_56 X S hn (by decide) dX9_laysBack_102 ?_
    refine lv_bipush (v := 8) X.1 X.2.1 dX9_laysBack_105 (by decide) ?_
    refine lv_iload_n X.1 X.2.1 dX9_laysBack_107 rfl (lv_at hl 1 rfl) ?_
    refine lv_imul X.1 X.2.1 dX9_laysBack_108 ?_
    refine lv_iload_n X.1 X.2.1 dX9_laysBack_109 rfl (lv_at hl 2 rfl) ?_
    refine lv_iadd X.1 X.2.1 dX9_laysBack_110 ?_
    obtain ⟨g_17, h⟩ := pz_gd_e h
    refine al_43 X S hn (by decide) g_17 dX9_laysBack_111 ?_
    obtain ⟨g_18, h⟩ := pz_gd_e h
    refine as_39 X S hn (by decide) g_18 dX9_laysBack_112 (fun J_19 H locs eJ_19 S => ?_)
    have h := pz_lt_e h eJ_19
    refine lv_aload_n X.1 X.2.1 dX9_laysBack_113 rfl (lv_at hl 0 rfl) ?_
    refine gf_X9_47 X S hn (by decide) dX9_laysBack_114 ?_
    refine lv_iload_n X.1 X.2.1 dX9_laysBack_117 rfl (lv_at hl 2 rfl) ?_
    refine lv_aload_n X.1 X.2.1 dX9_laysBack_118 rfl (lv_at hl 0 rfl) ?_
    refine gf_X9_59 X S hn (by decide) dX9_laysBack_119 ?_
    refine lv_bipush (v := 8) X.1 X.2.1 dX9_laysBack_122 (by decide) ?_
    refine lv_iload_n X.1 X.2.1 dX9_laysBack_124 rfl (lv_at hl 1 rfl) ?_
    refine lv_imul X.1 X.2.1 dX9_laysBack_125 ?_
    refine lv_iload_n X.1 X.2.1 dX9_laysBack_126 rfl (lv_at hl 2 rfl) ?_
    refine lv_iadd X.1 X.2.1 dX9_laysBack_127 ?_
    obtain ⟨g_20, h⟩ := pz_gd_e h
    refine al_44 X S hn (by decide) g_20 dX9_laysBack_128 ?_
    obtain ⟨g_21, h⟩ := pz_gd_e h
    refine as_40 X S hn (by decide) g_21 dX9_laysBack_129 (fun J_22 H locs eJ_22 S => ?_)
    have h := pz_lt_e h eJ_22
    obtain ⟨x_23, ex_23⟩ : ∃ y : Int32, y = (a3 + (1 : Int32)) := ⟨_, rfl⟩
    have h := pz_lt_e h ex_23
    refine lv_iinc (v := x_23) (lv' := [(3, .int x_23), (0, .ref (cx_b G + ly_loc 9 0)), (1, .int a1)]) X.1 X.2.1 dX9_laysBack_130 hl (k := 2) rfl (by rw [ex_23]; rfl) (by decide) rfl (fun ls hl => ?_)
    refine lv_goto (tgt := 90) X.1 X.2.1 dX9_laysBack_133 (by decide) ?_
    exact ih h S (lv_sub hl [1, 2, 0] rfl)
def f_X9_laysBack (N : Nat) (J : mm_T) (p1 : Int32) : Option (mm_T) := pz_lt ((7 : Int32) * p1) fun x_1 => pz_gd (ix_in x_1 56) <| pz_lt (mm_up J 9 0 32 (J 42 0 x_1.toNatClampNeg)) fun J_3 => pz_gd (ix_in (x_1 + (1 : Int32)) 56) <| pz_lt (mm_up J_3 9 0 33 (J_3 42 0 (x_1 + (1 : Int32)).toNatClampNeg)) fun J_5 => pz_gd (ix_in (x_1 + (2 : Int32)) 56) <| pz_lt (mm_up J_5 9 0 34 (J_5 42 0 (x_1 + (2 : Int32)).toNatClampNeg)) fun J_7 => pz_gd (ix_in (x_1 + (3 : Int32)) 56) <| pz_lt (mm_up J_7 9 0 35 (J_7 42 0 (x_1 + (3 : Int32)).toNatClampNeg)) fun J_9 => pz_gd (ix_in (x_1 + (4 : Int32)) 56) <| pz_lt (mm_up J_9 9 0 36 (J_9 42 0 (x_1 + (4 : Int32)).toNatClampNeg)) fun J_11 => pz_gd (ix_in (x_1 + (5 : Int32)) 56) <| pz_lt (mm_up J_11 9 0 39 (J_11 42 0 (x_1 + (5 : Int32)).toNatClampNeg)) fun J_13 => pz_gd (ix_in (x_1 + (6 : Int32)) 56) <| pz_lt (mm_up J_13 9 0 40 (J_13 42 0 (x_1 + (6 : Int32)).toNatClampNeg)) fun J_15 => f_X9_laysBack_L90 N p1 N J_15 p1 (0 : Int32)
set_option maxRecDepth 100000 in
set_option maxHeartbeats 4000000 in
theorem c_X9_laysBack {l : Launch} {G : cx_T} {N n : Nat} {I J : mm_T} {p1 : Int32} (hn : 144 ≤ n) {z : mm_T} (h : f_X9_laysBack N J p1 = some z) : ct_m l G n yX9_laysBack cX9_laysBack 4 none ({ frames := 0, cells := 0, slots := 0, locals := 0 }) [.ref (cx_b G + ly_loc 9 0), .int p1] I J (ct_qv G n I z) := by
  refine ct_en (by decide) (Nat.le_of_ble_eq_true rfl) ?_
  intro p e s m args below meth c ls X S hl
  have X : cx_ok G p s m args meth c cX9_laysBack 4 RX9 none := X
  have hl : lv_has ls 4 [(0, .ref (cx_b G + ly_loc 9 0)), (1, .int p1)] := hl
  unfold f_X9_laysBack at h
  refine lv_bipush (v := 7) X.1 X.2.1 dX9_laysBack_0 (by decide) ?_
  refine lv_iload_n X.1 X.2.1 dX9_laysBack_2 rfl (lv_at hl 1 rfl) ?_
  refine lv_imul X.1 X.2.1 dX9_laysBack_3 ?_
  refine lv_topi (fun x_1 ex_1 => ?_)
  have h := pz_lt_e h ex_1
  refine lv_istore_n (lv' := [(2, .int x_1), (0, .ref (cx_b G + ly_loc 9 0)), (1, .int p1)]) X.1 X.2.1 dX9_laysBack_4 rfl hl (by decide) rfl (fun ls hl => ?_)
  refine lv_aload_n X.1 X.2.1 dX9_laysBack_5 rfl (lv_at hl 1 rfl) ?_
  refine lv_aload_n X.1 X.2.1 dX9_laysBack_6 rfl (lv_at hl 1 rfl) ?_
  refine gf_X9_53 X S hn (by decide) dX9_laysBack_7 ?_
  refine lv_iload_n X.1 X.2.1 dX9_laysBack_10 rfl (lv_at hl 0 rfl) ?_
  obtain ⟨g_2, h⟩ := pz_gd_e h
  refine al_42 X S hn (by decide) g_2 dX9_laysBack_11 ?_
  refine pf_X9_252 X S hn (by decide) dX9_laysBack_12 (fun J_3 H locs eJ_3 S => ?_)
  have h := pz_lt_e h eJ_3
  refine lv_aload_n X.1 X.2.1 dX9_laysBack_15 rfl (lv_at hl 1 rfl) ?_
  refine lv_aload_n X.1 X.2.1 dX9_laysBack_16 rfl (lv_at hl 1 rfl) ?_
  refine gf_X9_53 X S hn (by decide) dX9_laysBack_17 ?_
  refine lv_iload_n X.1 X.2.1 dX9_laysBack_20 rfl (lv_at hl 0 rfl) ?_
  refine lv_iconst (v := 1) X.1 X.2.1 dX9_laysBack_21 (by decide) ?_
  refine lv_iadd X.1 X.2.1 dX9_laysBack_22 ?_
  obtain ⟨g_4, h⟩ := pz_gd_e h
  refine al_42 X S hn (by decide) g_4 dX9_laysBack_23 ?_
  refine pf_X9_258 X S hn (by decide) dX9_laysBack_24 (fun J_5 H locs eJ_5 S => ?_)
  have h := pz_lt_e h eJ_5
  refine lv_aload_n X.1 X.2.1 dX9_laysBack_27 rfl (lv_at hl 1 rfl) ?_
  refine lv_aload_n X.1 X.2.1 dX9_laysBack_28 rfl (lv_at hl 1 rfl) ?_
  refine gf_X9_53 X S hn (by decide) dX9_laysBack_29 ?_
  refine lv_iload_n X.1 X.2.1 dX9_laysBack_32 rfl (lv_at hl 0 rfl) ?_
  refine lv_iconst (v := 2) X.1 X.2.1 dX9_laysBack_33 (by decide) ?_
  refine lv_iadd X.1 X.2.1 dX9_laysBack_34 ?_
  obtain ⟨g_6, h⟩ := pz_gd_e h
  refine al_42 X S hn (by decide) g_6 dX9_laysBack_35 ?_
  refine pf_X9_255 X S hn (by decide) dX9_laysBack_36 (fun J_7 H locs eJ_7 S => ?_)
  have h := pz_lt_e h eJ_7
  refine lv_aload_n X.1 X.2.1 dX9_laysBack_39 rfl (lv_at hl 1 rfl) ?_
  refine lv_aload_n X.1 X.2.1 dX9_laysBack_40 rfl (lv_at hl 1 rfl) ?_
  refine gf_X9_53 X S hn (by decide) dX9_laysBack_41 ?_
  refine lv_iload_n X.1 X.2.1 dX9_laysBack_44 rfl (lv_at hl 0 rfl) ?_
  refine lv_iconst (v := 3) X.1 X.2.1 dX9_laysBack_45 (by decide) ?_
  refine lv_iadd X.1 X.2.1 dX9_laysBack_46 ?_
  obtain ⟨g_8, h⟩ := pz_gd_e h
  refine al_42 X S hn (by decide) g_8 dX9_laysBack_47 ?_
  refine pf_X9_265 X S hn (by decide) dX9_laysBack_48 (fun J_9 H locs eJ_9 S => ?_)
  have h := pz_lt_e h eJ_9
  refine lv_aload_n X.1 X.2.1 dX9_laysBack_51 rfl (lv_at hl 1 rfl) ?_
  refine lv_aload_n X.1 X.2.1 dX9_laysBack_52 rfl (lv_at hl 1 rfl) ?_
  refine gf_X9_53 X S hn (by decide) dX9_laysBack_53 ?_
  refine lv_iload_n X.1 X.2.1 dX9_laysBack_56 rfl (lv_at hl 0 rfl) ?_
  refine lv_iconst (v := 4) X.1 X.2.1 dX9_laysBack_57 (by decide) ?_
  refine lv_iadd X.1 X.2.1 dX9_laysBack_58 ?_
  obtain ⟨g_10, h⟩ := pz_gd_e h
  refine al_42 X S hn (by decide) g_10 dX9_laysBack_59 ?_
  refine pf_X9_268 X S hn (by decide) dX9_laysBack_60 (fun J_11 H locs eJ_11 S => ?_)
  have h := pz_lt_e h eJ_11
  refine lv_aload_n X.1 X.2.1 dX9_laysBack_63 rfl (lv_at hl 1 rfl) ?_
  refine lv_aload_n X.1 X.2.1 dX9_laysBack_64 rfl (lv_at hl 1 rfl) ?_
  refine gf_X9_53 X S hn (by decide) dX9_laysBack_65 ?_
  refine lv_iload_n X.1 X.2.1 dX9_laysBack_68 rfl (lv_at hl 0 rfl) ?_
  refine lv_iconst (v := 5) X.1 X.2.1 dX9_laysBack_69 (by decide) ?_
  refine lv_iadd X.1 X.2.1 dX9_laysBack_70 ?_
  obtain ⟨g_12, h⟩ := pz_gd_e h
  refine al_42 X S hn (by decide) g_12 dX9_laysBack_71 ?_
  refine pf_X9_271 X S hn (by decide) dX9_laysBack_72 (fun J_13 H locs eJ_13 S => ?_)
  have h := pz_lt_e h eJ_13
  refine lv_aload_n X.1 X.2.1 dX9_laysBack_75 rfl (lv_at hl 1 rfl) ?_
  refine lv_aload_n X.1 X.2.1 dX9_laysBack_76 rfl (lv_at hl 1 rfl) ?_
  refine gf_X9_53 X S hn (by decide) dX9_laysBack_77 ?_
  refine lv_iload_n X.1 X.2.1 dX9_laysBack_80 rfl (lv_at hl 0 rfl) ?_
  refine lv_bipush (v := 6) X.1 X.2.1 dX9_laysBack_81 (by decide) ?_
  refine lv_iadd X.1 X.2.1 dX9_laysBack_83 ?_
  obtain ⟨g_14, h⟩ := pz_gd_e h
  refine al_42 X S hn (by decide) g_14 dX9_laysBack_84 ?_
  refine pf_X9_274 X S hn (by decide) dX9_laysBack_85 (fun J_15 H locs eJ_15 S => ?_)
  have h := pz_lt_e h eJ_15
  refine lv_iconst (v := 0) X.1 X.2.1 dX9_laysBack_88 (by decide) ?_
  refine lv_istore_n (lv' := [(3, .int (0 : Int32)), (2, .int x_1), (0, .ref (cx_b G + ly_loc 9 0)), (1, .int p1)]) X.1 X.2.1 dX9_laysBack_89 rfl hl (by decide) rfl (fun ls hl => ?_)
  exact w_X9_laysBack_L90 X hn N h S (lv_sub hl [2, 3, 0] rfl)
def f_X9_isBetter (N : Nat) (J : mm_T) (p1 : Int32) : Option (Int32) := if p1 = 0 then (if (J 9 0 34) ≤ (J 9 0 46) then (some (0 : Int32)) else (some (1 : Int32))) else (pz_bd (f_X9_leftMany N J) fun q_2 => if q_2 < (J 9 0 47) then (some (1 : Int32)) else (pz_bd (f_X9_leftMany N J) fun q_4 => if q_4 = (J 9 0 47) then (if (J 9 0 36) ≤ (J 9 0 48) then (some (0 : Int32)) else (some (1 : Int32))) else (some (0 : Int32))))
set_option maxRecDepth 100000 in
set_option maxHeartbeats 4000000 in
theorem c_X9_isBetter {l : Launch} {G : cx_T} {N n : Nat} {I J : mm_T} {p1 : Int32} (hn : 144 ≤ n) {z : Int32} (h : f_X9_isBetter N J p1 = some z) : ct_m l G n yX9_isBetter cX9_isBetter 2 (some .boolean) ({ frames := 2, cells := 0, slots := 0, locals := 42 }) [.ref (cx_b G + ly_loc 9 0), .int p1] I J (ct_qi G n I J z) := by
  refine ct_en (by decide) (Nat.le_of_ble_eq_true rfl) ?_
  intro p e s m args below meth c ls X S hl
  have X : cx_ok G p s m args meth c cX9_isBetter 2 RX9 (some .boolean) := X
  have hl : lv_has ls 2 [(0, .ref (cx_b G + ly_loc 9 0)), (1, .int p1)] := hl
  unfold f_X9_isBetter at h
  refine lv_iload_n X.1 X.2.1 dX9_isBetter_0 rfl (lv_at hl 1 rfl) ?_
  refine lv_if_ne (tgt := 21) X.1 X.2.1 dX9_isBetter_1 (by decide) (fun c_1 => ?_) (fun c_1 => ?_)
  · have h := pz_f c_1 h
    refine lv_aload_n X.1 X.2.1 dX9_isBetter_21 rfl (lv_at hl 0 rfl) ?_
    obtain ⟨q_2, eq_2, h⟩ := pz_bd_e h
    refine r_Vi X S (c_X9_leftMany hn eq_2) gd_X9_293 ⟨rfl, ny_X9_leftMany⟩ ⟨rfl, rfl⟩ ⟨Nat.le_of_ble_eq_true rfl, Nat.le_of_ble_eq_true rfl⟩ (r_recv X S (ly_ok_9 (by decide) hn) rfl rfl) rfl rfl hl.1 (Nat.le_of_ble_eq_true rfl) dX9_isBetter_22 (fun H locs S => ?_)
    refine lv_aload_n X.1 X.2.1 dX9_isBetter_25 rfl (lv_at hl 0 rfl) ?_
    refine gf_X9_318 X S hn (by decide) dX9_isBetter_26 ?_
    refine lv_icmp_lt (tgt := 54) X.1 X.2.1 dX9_isBetter_29 (by decide) (fun c_3 => ?_) (fun c_3 => ?_)
    · have h := pz_t c_3 h
      refine lv_iconst (v := 1) X.1 X.2.1 dX9_isBetter_54 (by decide) ?_
      refine lv_goto (tgt := 59) X.1 X.2.1 dX9_isBetter_55 (by decide) ?_
      cases h
      exact r_zret (v := 1) X S rfl dX9_isBetter_59
    have h := pz_f c_3 h
    refine lv_aload_n X.1 X.2.1 dX9_isBetter_32 rfl (lv_at hl 0 rfl) ?_
    obtain ⟨q_4, eq_4, h⟩ := pz_bd_e h
    refine r_Vi X S (c_X9_leftMany hn eq_4) gd_X9_293 ⟨rfl, ny_X9_leftMany⟩ ⟨rfl, rfl⟩ ⟨Nat.le_of_ble_eq_true rfl, Nat.le_of_ble_eq_true rfl⟩ (r_recv X S (ly_ok_9 (by decide) hn) rfl rfl) rfl rfl hl.1 (Nat.le_of_ble_eq_true rfl) dX9_isBetter_33 (fun H locs S => ?_)
    refine lv_aload_n X.1 X.2.1 dX9_isBetter_36 rfl (lv_at hl 0 rfl) ?_
    refine gf_X9_318 X S hn (by decide) dX9_isBetter_37 ?_
    refine lv_icmp_ne (tgt := 58) X.1 X.2.1 dX9_isBetter_40 (by decide) (fun c_5 => ?_) (fun c_5 => ?_)
    · have h := pz_f c_5 h
      refine lv_iconst (v := 0) X.1 X.2.1 dX9_isBetter_58 (by decide) ?_
      cases h
      exact r_zret (v := 0) X S rfl dX9_isBetter_59
    have h := pz_t c_5 h
    refine lv_aload_n X.1 X.2.1 dX9_isBetter_43 rfl (lv_at hl 0 rfl) ?_
    refine gf_X9_268 X S hn (by decide) dX9_isBetter_44 ?_
    refine lv_aload_n X.1 X.2.1 dX9_isBetter_47 rfl (lv_at hl 0 rfl) ?_
    refine gf_X9_321 X S hn (by decide) dX9_isBetter_48 ?_
    refine lv_icmp_le (tgt := 58) X.1 X.2.1 dX9_isBetter_51 (by decide) (fun c_6 => ?_) (fun c_6 => ?_)
    · have h := pz_t c_6 h
      refine lv_iconst (v := 0) X.1 X.2.1 dX9_isBetter_58 (by decide) ?_
      cases h
      exact r_zret (v := 0) X S rfl dX9_isBetter_59
    have h := pz_f c_6 h
    refine lv_iconst (v := 1) X.1 X.2.1 dX9_isBetter_54 (by decide) ?_
    refine lv_goto (tgt := 59) X.1 X.2.1 dX9_isBetter_55 (by decide) ?_
    cases h
    exact r_zret (v := 1) X S rfl dX9_isBetter_59
  have h := pz_t c_1 h
  refine lv_aload_n X.1 X.2.1 dX9_isBetter_4 rfl (lv_at hl 0 rfl) ?_
  refine gf_X9_255 X S hn (by decide) dX9_isBetter_5 ?_
  refine lv_aload_n X.1 X.2.1 dX9_isBetter_8 rfl (lv_at hl 0 rfl) ?_
  refine gf_X9_315 X S hn (by decide) dX9_isBetter_9 ?_
  refine lv_icmp_le (tgt := 19) X.1 X.2.1 dX9_isBetter_12 (by decide) (fun c_7 => ?_) (fun c_7 => ?_)
  · have h := pz_t c_7 h
    refine lv_iconst (v := 0) X.1 X.2.1 dX9_isBetter_19 (by decide) ?_
    cases h
    exact r_zret (v := 0) X S rfl dX9_isBetter_20
  have h := pz_f c_7 h
  refine lv_iconst (v := 1) X.1 X.2.1 dX9_isBetter_15 (by decide) ?_
  refine lv_goto (tgt := 20) X.1 X.2.1 dX9_isBetter_16 (by decide) ?_
  cases h
  exact r_zret (v := 1) X S rfl dX9_isBetter_20
def f_X9_rows_L98 (N : Nat) (rc : Nat → mm_T → Int32 → Int32 → Int32 → Option (mm_T)) (p1 : Int32) (p2 : Int32) (p3 : Int32) (k44 : mm_T → Int32 → Int32 → Int32 → Int32 → Option (mm_T)) (J : mm_T) (a1 : Int32) (a2 : Int32) (a3 : Int32) (a4 : Int32) : Option (mm_T) := pz_lt (a4 + (1 : Int32)) fun x_15 => k44 J a1 a2 a3 x_15
set_option maxRecDepth 100000 in
set_option maxHeartbeats 4000000 in
theorem w_X9_rows_L98 {l : Launch} {G : cx_T} {p : Program} {e : Env} {s : State} {m : MethodId} {args : Array Value} {below : List Frame} {meth : Method} {c : Code} {N n : Nat} {d : Nat} {rc : Nat → mm_T → Int32 → Int32 → Int32 → Option (mm_T)} {I : mm_T} {p1 : Int32} {p2 : Int32} {p3 : Int32} (X : cx_ok G p s m args meth c cX9_rows 5 RX9 none) (hn : 144 ≤ n) (hrc_X9_rows : ∀ {I J : mm_T} {p1 : Int32} {p2 : Int32} {p3 : Int32} {z : mm_T}, 144 ≤ n → rc 0 J p1 p2 p3 = some z → ct_m l G n yX9_rows cX9_rows 5 none ({ frames := 69 + d, cells := 0, slots := 0, locals := 2610 + 40 * d }) [.ref (cx_b G + ly_loc 9 0), .int p1, .int p2, .int p3] I J (ct_qv G n I z)) {k44 : mm_T → Int32 → Int32 → Int32 → Int32 → Option (mm_T)} {z : mm_T} (K44 : ∀ {J : mm_T} {a1 : Int32} {a2 : Int32} {a3 : Int32} {a4 : Int32} {H : Heap} {locs : List Loc} {ls : Array Slot}, k44 J a1 a2 a3 a4 = some z → st_ok G n I J s H locs → lv_has ls 5 [(0, .ref (cx_b G + ly_loc 9 0)), (1, .int a1), (2, .int a2), (3, .int a3), (4, .int a4)] → W p l e ({ frames := 69 + (d + 1), cells := 0, slots := 0, locals := 2610 + 40 * (d + 1) }) s m args below meth c H locs 0 0 (MQ below (ct_qv G n I z) args s 0 0 (cx_A G)) (F0 m 44 ls [])) {J : mm_T} {a1 : Int32} {a2 : Int32} {a3 : Int32} {a4 : Int32} {H : Heap} {locs : List Loc} {ls : Array Slot} (h : f_X9_rows_L98 N rc p1 p2 p3 k44 J a1 a2 a3 a4 = some z) (S : st_ok G n I J s H locs) (hl : lv_has ls 5 [(0, .ref (cx_b G + ly_loc 9 0)), (1, .int a1), (2, .int a2), (3, .int a3), (4, .int a4)]) : W p l e ({ frames := 69 + (d + 1), cells := 0, slots := 0, locals := 2610 + 40 * (d + 1) }) s m args below meth c H locs 0 0 (MQ below (ct_qv G n I z) args s 0 0 (cx_A G)) (F0 m 98 ls []) := by
  unfold f_X9_rows_L98 at h
  obtain ⟨x_15, ex_15⟩ : ∃ y : Int32, y = (a4 + (1 : Int32)) := ⟨_, rfl⟩
  have h := pz_lt_e h ex_15
  refine lv_iinc (v := x_15) (lv' := [(4, .int x_15), (0, .ref (cx_b G + ly_loc 9 0)), (1, .int a1), (2, .int a2), (3, .int a3)]) X.1 X.2.1 dX9_rows_98 hl (k := 4) rfl (by rw [ex_15]; rfl) (by decide) rfl (fun ls hl => ?_)
  refine lv_goto (tgt := 44) X.1 X.2.1 dX9_rows_101 (by decide) ?_
  exact K44 h S (lv_sub hl [1, 2, 3, 4, 0] rfl)
def f_X9_rows_L44 (N : Nat) (rc : Nat → mm_T → Int32 → Int32 → Int32 → Option (mm_T)) (p1 : Int32) (p2 : Int32) (p3 : Int32) : Nat → mm_T → Int32 → Int32 → Int32 → Int32 → Option (mm_T)
  | 0, _, _, _, _, _ => none
  | cnt + 1, J, a1, a2, a3, a4 => if (J 9 0 14) ≤ a4 then (some J) else (if (((J 9 0 39) >>> (a4 &&& 31)) &&& (1 : Int32)) = 0 then (pz_bd (f_X9_lays N J a1) fun q_11 => pz_bd (f_X9_calls N q_11 a4) fun q_12 => pz_bd (rc 0 q_12 (a1 + (1 : Int32)) ((((10 : Int32) * a2) + a4) + (1 : Int32)) a3) fun q_13 => pz_bd (f_X9_laysBack N q_13 a1) fun q_14 => f_X9_rows_L98 N rc p1 p2 p3 (f_X9_rows_L44 N rc p1 p2 p3 cnt) q_14 a1 a2 a3 a4) else (f_X9_rows_L98 N rc p1 p2 p3 (f_X9_rows_L44 N rc p1 p2 p3 cnt) J a1 a2 a3 a4))
set_option maxRecDepth 100000 in
set_option maxHeartbeats 4000000 in
theorem w_X9_rows_L44 {l : Launch} {G : cx_T} {p : Program} {e : Env} {s : State} {m : MethodId} {args : Array Value} {below : List Frame} {meth : Method} {c : Code} {N n : Nat} {d : Nat} {rc : Nat → mm_T → Int32 → Int32 → Int32 → Option (mm_T)} {I : mm_T} {p1 : Int32} {p2 : Int32} {p3 : Int32} (X : cx_ok G p s m args meth c cX9_rows 5 RX9 none) (hn : 144 ≤ n) (hrc_X9_rows : ∀ {I J : mm_T} {p1 : Int32} {p2 : Int32} {p3 : Int32} {z : mm_T}, 144 ≤ n → rc 0 J p1 p2 p3 = some z → ct_m l G n yX9_rows cX9_rows 5 none ({ frames := 69 + d, cells := 0, slots := 0, locals := 2610 + 40 * d }) [.ref (cx_b G + ly_loc 9 0), .int p1, .int p2, .int p3] I J (ct_qv G n I z)) {z : mm_T} : ∀ (cnt : Nat) {J : mm_T} {a1 : Int32} {a2 : Int32} {a3 : Int32} {a4 : Int32} {H : Heap} {locs : List Loc} {ls : Array Slot} , f_X9_rows_L44 N rc p1 p2 p3 cnt J a1 a2 a3 a4 = some z → st_ok G n I J s H locs → lv_has ls 5 [(0, .ref (cx_b G + ly_loc 9 0)), (1, .int a1), (2, .int a2), (3, .int a3), (4, .int a4)] → W p l e ({ frames := 69 + (d + 1), cells := 0, slots := 0, locals := 2610 + 40 * (d + 1) }) s m args below meth c H locs 0 0 (MQ below (ct_qv G n I z) args s 0 0 (cx_A G)) (F0 m 44 ls []) := by
  intro cnt
  induction cnt with
  | zero =>
    intro J a1 a2 a3 a4 H locs ls h
    rw [f_X9_rows_L44] at h
    cases h
  | succ cnt ih =>
    intro J a1 a2 a3 a4 H locs ls h S hl
    rw [f_X9_rows_L44] at h
    refine lv_iload X.1 X.2.1 dX9_rows_44 (lv_at hl 4 rfl) ?_
    refine lv_aload_n X.1 X.2.1 dX9_rows_46 rfl (lv_at hl 0 rfl) ?_
    refine gf_X9_98 X S hn (by decide) dX9_rows_47 ?_
    refine lv_icmp_ge (tgt := 104) X.1 X.2.1 dX9_rows_50 (by decide) (fun c_9 => ?_) (fun c_9 => ?_)
    · have h := pz_t c_9 h
      cases h
      exact r_vret X S dX9_rows_104
    have h := pz_f c_9 h
    refine lv_aload_n X.1 X.2.1 dX9_rows_53 rfl (lv_at hl 0 rfl) ?_
    refine gf_X9_271 X S hn (by decide) dX9_rows_54 ?_
    refine lv_iload X.1 X.2.1 dX9_rows_57 (lv_at hl 4 rfl) ?_
    refine lv_ishr X.1 X.2.1 dX9_rows_59 ?_
    refine lv_iconst (v := 1) X.1 X.2.1 dX9_rows_60 (by decide) ?_
    refine lv_iand X.1 X.2.1 dX9_rows_61 ?_
    refine lv_if_ne (tgt := 98) X.1 X.2.1 dX9_rows_62 (by decide) (fun c_10 => ?_) (fun c_10 => ?_)
    · have h := pz_f c_10 h
      exact w_X9_rows_L98 X hn hrc_X9_rows ih h S (lv_sub hl [0, 1, 2, 3, 4] rfl)
    have h := pz_t c_10 h
    refine lv_aload_n X.1 X.2.1 dX9_rows_65 rfl (lv_at hl 0 rfl) ?_
    refine lv_iload_n X.1 X.2.1 dX9_rows_66 rfl (lv_at hl 1 rfl) ?_
    obtain ⟨q_11, eq_11, h⟩ := pz_bd_e h
    refine r_Vv X S (c_X9_lays hn eq_11) gd_X9_330 ⟨rfl, ny_X9_lays⟩ ⟨rfl, rfl⟩ ⟨by dsimp only; omega, by dsimp only; omega⟩ (r_recv X S (ly_ok_9 (by decide) hn) rfl rfl) rfl rfl hl.1 (Nat.le_of_ble_eq_true rfl) dX9_rows_67 (fun H locs S => ?_)
    refine lv_aload_n X.1 X.2.1 dX9_rows_70 rfl (lv_at hl 0 rfl) ?_
    refine lv_iload X.1 X.2.1 dX9_rows_71 (lv_at hl 4 rfl) ?_
    obtain ⟨q_12, eq_12, h⟩ := pz_bd_e h
    refine r_Vv X S (c_X9_calls hn eq_12) gd_X9_302 ⟨rfl, ny_X9_calls⟩ ⟨rfl, rfl⟩ ⟨by dsimp only; omega, by dsimp only; omega⟩ (r_recv X S (ly_ok_9 (by decide) hn) rfl rfl) rfl rfl hl.1 (Nat.le_of_ble_eq_true rfl) dX9_rows_73 (fun H locs S => ?_)
    refine lv_aload_n X.1 X.2.1 dX9_rows_76 rfl (lv_at hl 0 rfl) ?_
    refine lv_iload_n X.1 X.2.1 dX9_rows_77 rfl (lv_at hl 1 rfl) ?_
    refine lv_iconst (v := 1) X.1 X.2.1 dX9_rows_78 (by decide) ?_
    refine lv_iadd X.1 X.2.1 dX9_rows_79 ?_
    refine lv_bipush (v := 10) X.1 X.2.1 dX9_rows_80 (by decide) ?_
    refine lv_iload_n X.1 X.2.1 dX9_rows_82 rfl (lv_at hl 2 rfl) ?_
    refine lv_imul X.1 X.2.1 dX9_rows_83 ?_
    refine lv_iload X.1 X.2.1 dX9_rows_84 (lv_at hl 4 rfl) ?_
    refine lv_iadd X.1 X.2.1 dX9_rows_86 ?_
    refine lv_iconst (v := 1) X.1 X.2.1 dX9_rows_87 (by decide) ?_
    refine lv_iadd X.1 X.2.1 dX9_rows_88 ?_
    refine lv_iload_n X.1 X.2.1 dX9_rows_89 rfl (lv_at hl 3 rfl) ?_
    obtain ⟨q_13, eq_13, h⟩ := pz_bd_e h
    refine r_Vv X S (hrc_X9_rows hn eq_13) gd_X9_333 ⟨rfl, ny_X9_rows⟩ ⟨rfl, rfl⟩ ⟨by dsimp only; omega, by dsimp only; omega⟩ (r_recv X S (ly_ok_9 (by decide) hn) rfl rfl) rfl rfl hl.1 (Nat.le_of_ble_eq_true rfl) dX9_rows_90 (fun H locs S => ?_)
    refine lv_aload_n X.1 X.2.1 dX9_rows_93 rfl (lv_at hl 0 rfl) ?_
    refine lv_iload_n X.1 X.2.1 dX9_rows_94 rfl (lv_at hl 1 rfl) ?_
    obtain ⟨q_14, eq_14, h⟩ := pz_bd_e h
    refine r_Vv X S (c_X9_laysBack hn eq_14) gd_X9_337 ⟨rfl, ny_X9_laysBack⟩ ⟨rfl, rfl⟩ ⟨by dsimp only; omega, by dsimp only; omega⟩ (r_recv X S (ly_ok_9 (by decide) hn) rfl rfl) rfl rfl hl.1 (Nat.le_of_ble_eq_true rfl) dX9_rows_95 (fun H locs S => ?_)
    exact w_X9_rows_L98 X hn hrc_X9_rows ih h S (lv_sub hl [0, 1, 2, 3, 4] rfl)
def f_X9_rows_L41 (N : Nat) (rc : Nat → mm_T → Int32 → Int32 → Int32 → Option (mm_T)) (p1 : Int32) (p2 : Int32) (p3 : Int32) (J : mm_T) (a1 : Int32) (a2 : Int32) (a3 : Int32) : Option (mm_T) := f_X9_rows_L44 N rc p1 p2 p3 N J a1 a2 a3 (0 : Int32)
set_option maxRecDepth 100000 in
set_option maxHeartbeats 4000000 in
theorem w_X9_rows_L41 {l : Launch} {G : cx_T} {p : Program} {e : Env} {s : State} {m : MethodId} {args : Array Value} {below : List Frame} {meth : Method} {c : Code} {N n : Nat} {d : Nat} {rc : Nat → mm_T → Int32 → Int32 → Int32 → Option (mm_T)} {I : mm_T} {p1 : Int32} {p2 : Int32} {p3 : Int32} (X : cx_ok G p s m args meth c cX9_rows 5 RX9 none) (hn : 144 ≤ n) (hrc_X9_rows : ∀ {I J : mm_T} {p1 : Int32} {p2 : Int32} {p3 : Int32} {z : mm_T}, 144 ≤ n → rc 0 J p1 p2 p3 = some z → ct_m l G n yX9_rows cX9_rows 5 none ({ frames := 69 + d, cells := 0, slots := 0, locals := 2610 + 40 * d }) [.ref (cx_b G + ly_loc 9 0), .int p1, .int p2, .int p3] I J (ct_qv G n I z)) {z : mm_T} {J : mm_T} {a1 : Int32} {a2 : Int32} {a3 : Int32} {H : Heap} {locs : List Loc} {ls : Array Slot} (h : f_X9_rows_L41 N rc p1 p2 p3 J a1 a2 a3 = some z) (S : st_ok G n I J s H locs) (hl : lv_has ls 5 [(0, .ref (cx_b G + ly_loc 9 0)), (1, .int a1), (2, .int a2), (3, .int a3)]) : W p l e ({ frames := 69 + (d + 1), cells := 0, slots := 0, locals := 2610 + 40 * (d + 1) }) s m args below meth c H locs 0 0 (MQ below (ct_qv G n I z) args s 0 0 (cx_A G)) (F0 m 41 ls []) := by
  unfold f_X9_rows_L41 at h
  refine lv_iconst (v := 0) X.1 X.2.1 dX9_rows_41 (by decide) ?_
  refine lv_istore (lv' := [(4, .int (0 : Int32)), (0, .ref (cx_b G + ly_loc 9 0)), (1, .int a1), (2, .int a2), (3, .int a3)]) X.1 X.2.1 dX9_rows_42 hl (by decide) rfl (fun ls hl => ?_)
  exact w_X9_rows_L44 X hn hrc_X9_rows N h S (lv_sub hl [1, 2, 3, 4, 0] rfl)
def f_X9_rows_L12 (N : Nat) (rc : Nat → mm_T → Int32 → Int32 → Int32 → Option (mm_T)) (p1 : Int32) (p2 : Int32) (p3 : Int32) (J : mm_T) (a1 : Int32) (a2 : Int32) (a3 : Int32) : Option (mm_T) := pz_lt (mm_up J 9 0 45 a2) fun J_4 => pz_lt (mm_up J_4 9 0 46 (J_4 9 0 34)) fun J_5 => pz_bd (f_X9_leftMany N J_5) fun q_6 => pz_lt (mm_up J_5 9 0 47 q_6) fun J_7 => pz_lt (mm_up J_7 9 0 48 (J_7 9 0 36)) fun J_8 => f_X9_rows_L41 N rc p1 p2 p3 J_8 a1 a2 a3
set_option maxRecDepth 100000 in
set_option maxHeartbeats 4000000 in
theorem w_X9_rows_L12 {l : Launch} {G : cx_T} {p : Program} {e : Env} {s : State} {m : MethodId} {args : Array Value} {below : List Frame} {meth : Method} {c : Code} {N n : Nat} {d : Nat} {rc : Nat → mm_T → Int32 → Int32 → Int32 → Option (mm_T)} {I : mm_T} {p1 : Int32} {p2 : Int32} {p3 : Int32} (X : cx_ok G p s m args meth c cX9_rows 5 RX9 none) (hn : 144 ≤ n) (hrc_X9_rows : ∀ {I J : mm_T} {p1 : Int32} {p2 : Int32} {p3 : Int32} {z : mm_T}, 144 ≤ n → rc 0 J p1 p2 p3 = some z → ct_m l G n yX9_rows cX9_rows 5 none ({ frames := 69 + d, cells := 0, slots := 0, locals := 2610 + 40 * d }) [.ref (cx_b G + ly_loc 9 0), .int p1, .int p2, .int p3] I J (ct_qv G n I z)) {z : mm_T} {J : mm_T} {a1 : Int32} {a2 : Int32} {a3 : Int32} {H : Heap} {locs : List Loc} {ls : Array Slot} (h : f_X9_rows_L12 N rc p1 p2 p3 J a1 a2 a3 = some z) (S : st_ok G n I J s H locs) (hl : lv_has ls 5 [(0, .ref (cx_b G + ly_loc 9 0)), (1, .int a1), (2, .int a2), (3, .int a3)]) : W p l e ({ frames := 69 + (d + 1), cells := 0, slots := 0, locals := 2610 + 40 * (d + 1) }) s m args below meth c H locs 0 0 (MQ below (ct_qv G n I z) args s 0 0 (cx_A G)) (F0 m 12 ls []) := by
  unfold f_X9_rows_L12 at h
  refine lv_aload_n X.1 X.2.1 dX9_rows_12 rfl (lv_at hl 0 rfl) ?_
  refine lv_iload_n X.1 X.2.1 dX9_rows_13 rfl (lv_at hl 2 rfl) ?_
  refine pf_X9_327 X S hn (by decide) dX9_rows_14 (fun J_4 H locs eJ_4 S => ?_)
  have h := pz_lt_e h eJ_4
  refine lv_aload_n X.1 X.2.1 dX9_rows_17 rfl (lv_at hl 0 rfl) ?_
  refine lv_aload_n X.1 X.2.1 dX9_rows_18 rfl (lv_at hl 0 rfl) ?_
  refine gf_X9_255 X S hn (by decide) dX9_rows_19 ?_
  refine pf_X9_315 X S hn (by decide) dX9_rows_22 (fun J_5 H locs eJ_5 S => ?_)
  have h := pz_lt_e h eJ_5
  refine lv_aload_n X.1 X.2.1 dX9_rows_25 rfl (lv_at hl 0 rfl) ?_
  refine lv_aload_n X.1 X.2.1 dX9_rows_26 rfl (lv_at hl 0 rfl) ?_
  obtain ⟨q_6, eq_6, h⟩ := pz_bd_e h
  refine r_Vi X S (c_X9_leftMany hn eq_6) gd_X9_293 ⟨rfl, ny_X9_leftMany⟩ ⟨rfl, rfl⟩ ⟨by dsimp only; omega, by dsimp only; omega⟩ (r_recv X S (ly_ok_9 (by decide) hn) rfl rfl) rfl rfl hl.1 (Nat.le_of_ble_eq_true rfl) dX9_rows_27 (fun H locs S => ?_)
  refine pf_X9_318 X S hn (by decide) dX9_rows_30 (fun J_7 H locs eJ_7 S => ?_)
  have h := pz_lt_e h eJ_7
  refine lv_aload_n X.1 X.2.1 dX9_rows_33 rfl (lv_at hl 0 rfl) ?_
  refine lv_aload_n X.1 X.2.1 dX9_rows_34 rfl (lv_at hl 0 rfl) ?_
  refine gf_X9_268 X S hn (by decide) dX9_rows_35 ?_
  refine pf_X9_321 X S hn (by decide) dX9_rows_38 (fun J_8 H locs eJ_8 S => ?_)
  have h := pz_lt_e h eJ_8
  exact w_X9_rows_L41 X hn hrc_X9_rows h S (lv_sub hl [0, 1, 2, 3] rfl)
def f_X9_rows (N : Nat) (rc : Nat → mm_T → Int32 → Int32 → Int32 → Option (mm_T)) (J : mm_T) (p1 : Int32) (p2 : Int32) (p3 : Int32) : Option (mm_T) := if p1 = 0 then (f_X9_rows_L12 N rc p1 p2 p3 J p1 p2 p3) else (pz_bd (f_X9_isBetter N J p3) fun q_2 => if q_2 = 0 then (f_X9_rows_L41 N rc p1 p2 p3 J p1 p2 p3) else (f_X9_rows_L12 N rc p1 p2 p3 J p1 p2 p3))
set_option maxRecDepth 100000 in
set_option maxHeartbeats 4000000 in
theorem c_X9_rows {l : Launch} {G : cx_T} {N n : Nat} {d : Nat} {rc : Nat → mm_T → Int32 → Int32 → Int32 → Option (mm_T)} {I J : mm_T} {p1 : Int32} {p2 : Int32} {p3 : Int32} (hrc_X9_rows : ∀ {I J : mm_T} {p1 : Int32} {p2 : Int32} {p3 : Int32} {z : mm_T}, 144 ≤ n → rc 0 J p1 p2 p3 = some z → ct_m l G n yX9_rows cX9_rows 5 none ({ frames := 69 + d, cells := 0, slots := 0, locals := 2610 + 40 * d }) [.ref (cx_b G + ly_loc 9 0), .int p1, .int p2, .int p3] I J (ct_qv G n I z)) (hn : 144 ≤ n) {z : mm_T} (h : f_X9_rows N rc J p1 p2 p3 = some z) : ct_m l G n yX9_rows cX9_rows 5 none ({ frames := 69 + (d + 1), cells := 0, slots := 0, locals := 2610 + 40 * (d + 1) }) [.ref (cx_b G + ly_loc 9 0), .int p1, .int p2, .int p3] I J (ct_qv G n I z) := by
  refine ct_en (by decide) (Nat.le_of_ble_eq_true rfl) ?_
  intro p e s m args below meth c ls X S hl
  have X : cx_ok G p s m args meth c cX9_rows 5 RX9 none := X
  have hl : lv_has ls 5 [(0, .ref (cx_b G + ly_loc 9 0)), (1, .int p1), (2, .int p2), (3, .int p3)] := hl
  unfold f_X9_rows at h
  refine lv_iload_n X.1 X.2.1 dX9_rows_0 rfl (lv_at hl 1 rfl) ?_
  refine lv_if_eq (tgt := 12) X.1 X.2.1 dX9_rows_1 (by decide) (fun c_1 => ?_) (fun c_1 => ?_)
  · have h := pz_t c_1 h
    exact w_X9_rows_L12 X hn hrc_X9_rows h S (lv_sub hl [0, 1, 2, 3] rfl)
  have h := pz_f c_1 h
  refine lv_aload_n X.1 X.2.1 dX9_rows_4 rfl (lv_at hl 0 rfl) ?_
  refine lv_iload_n X.1 X.2.1 dX9_rows_5 rfl (lv_at hl 3 rfl) ?_
  obtain ⟨q_2, eq_2, h⟩ := pz_bd_e h
  refine r_Vi X S (c_X9_isBetter hn eq_2) gd_X9_324 ⟨rfl, ny_X9_isBetter⟩ ⟨rfl, rfl⟩ ⟨by dsimp only; omega, by dsimp only; omega⟩ (r_recv X S (ly_ok_9 (by decide) hn) rfl rfl) rfl rfl hl.1 (Nat.le_of_ble_eq_true rfl) dX9_rows_6 (fun H locs S => ?_)
  refine lv_if_eq (tgt := 41) X.1 X.2.1 dX9_rows_9 (by decide) (fun c_3 => ?_) (fun c_3 => ?_)
  · have h := pz_t c_3 h
    exact w_X9_rows_L41 X hn hrc_X9_rows h S (lv_sub hl [0, 1, 2, 3] rfl)
  have h := pz_f c_3 h
  exact w_X9_rows_L12 X hn hrc_X9_rows h S (lv_sub hl [0, 1, 2, 3] rfl)
def f_M9r (N : Nat) : Nat → Nat → mm_T → Int32 → Int32 → Int32 → Option (mm_T)
  | 0, _, _, _, _, _ => none
  | d + 1, sel, J, p1, p2, p3 => f_X9_rows N (f_M9r N d) J p1 p2 p3
set_option maxRecDepth 100000 in
set_option maxHeartbeats 4000000 in
theorem ca_M9r {l : Launch} {G : cx_T} {N n : Nat} : ∀ (d : Nat), (∀ {I J : mm_T} {p1 : Int32} {p2 : Int32} {p3 : Int32} {z : mm_T}, 144 ≤ n → f_M9r N d 0 J p1 p2 p3 = some z → ct_m l G n yX9_rows cX9_rows 5 none ({ frames := 69 + d, cells := 0, slots := 0, locals := 2610 + 40 * d }) [.ref (cx_b G + ly_loc 9 0), .int p1, .int p2, .int p3] I J (ct_qv G n I z)) := by
  intro d
  induction d with
  | zero => exact (by intros; rename_i h; rw [f_M9r] at h; cases h)
  | succ d ih =>
    exact (by intros; rename_i h; rw [f_M9r] at h; exact c_X9_rows (ih) (by assumption) h)
theorem cs_X9_rows {l : Launch} {G : cx_T} {N n : Nat} {I J : mm_T} {p1 : Int32} {p2 : Int32} {p3 : Int32} {z : mm_T} (hn : 144 ≤ n) (h : f_M9r N 20 0 J p1 p2 p3 = some z) : ct_m l G n yX9_rows cX9_rows 5 none ({ frames := 89, cells := 0, slots := 0, locals := 3410 }) [.ref (cx_b G + ly_loc 9 0), .int p1, .int p2, .int p3] I J (ct_qv G n I z) := (ca_M9r 20) hn h
def f_X9_best (N : Nat) (J : mm_T) (p1 : Int32) (p2 : Int32) : Option (mm_T × Int32) := pz_bd (f_X9_in N (p1.toInt64) (0 : Int64) (1 : Int64)) fun q_1 => if q_1 = 0 then (some (J, (-2 : Int32))) else (pz_bd (f_X9_in N (p2.toInt64) (0 : Int64) (3 : Int64)) fun q_3 => if q_3 = 0 then (some (J, (-2 : Int32))) else (pz_bd (f_X9_begins N J) fun q_5 => pz_bd (f_M9r N 20 0 q_5 (0 : Int32) (0 : Int32) p1) fun q_6 => if p2 = 0 then (some (q_6, (q_6 9 0 46))) else (if p2 = (1 : Int32) then (some (q_6, (q_6 9 0 47))) else (if p2 = (2 : Int32) then (some (q_6, (q_6 9 0 48))) else (some (q_6, (q_6 9 0 45)))))))
set_option maxRecDepth 100000 in
set_option maxHeartbeats 4000000 in
theorem c_X9_best {l : Launch} {G : cx_T} {N n : Nat} {I J : mm_T} {p1 : Int32} {p2 : Int32} (hn : 144 ≤ n) {z : mm_T × Int32} (h : f_X9_best N J p1 p2 = some z) : ct_m l G n yX9_best cX9_best 3 (some .int) ({ frames := 90, cells := 0, slots := 0, locals := 3434 }) [.ref (cx_b G + ly_loc 9 0), .int p1, .int p2] I J (ct_qi G n I z.1 z.2) := by
  refine ct_en (by decide) (Nat.le_of_ble_eq_true rfl) ?_
  intro p e s m args below meth c ls X S hl
  have X : cx_ok G p s m args meth c cX9_best 3 RX9 (some .int) := X
  have hl : lv_has ls 3 [(0, .ref (cx_b G + ly_loc 9 0)), (1, .int p1), (2, .int p2)] := hl
  unfold f_X9_best at h
  refine lv_iload_n X.1 X.2.1 dX9_best_0 rfl (lv_at hl 1 rfl) ?_
  refine lv_i2l X.1 X.2.1 dX9_best_1 rfl ?_
  refine lv_lconst (v := 0) X.1 X.2.1 dX9_best_2 (by decide) ?_
  refine lv_lconst (v := 1) X.1 X.2.1 dX9_best_3 (by decide) ?_
  obtain ⟨q_1, eq_1, h⟩ := pz_bd_e h
  refine r_Si X S (c_X9_in eq_1) gd_X9_94 ny_X9_in ⟨rfl, rfl⟩ ⟨Nat.le_of_ble_eq_true rfl, Nat.le_of_ble_eq_true rfl⟩ rfl rfl hl.1 (Nat.le_of_ble_eq_true rfl) dX9_best_4 (fun H locs S => ?_)
  refine lv_if_eq (tgt := 22) X.1 X.2.1 dX9_best_7 (by decide) (fun c_2 => ?_) (fun c_2 => ?_)
  · have h := pz_t c_2 h
    refine lv_bipush (v := -2) X.1 X.2.1 dX9_best_22 (by decide) ?_
    cases h
    exact r_iret X S dX9_best_24
  have h := pz_f c_2 h
  refine lv_iload_n X.1 X.2.1 dX9_best_10 rfl (lv_at hl 2 rfl) ?_
  refine lv_i2l X.1 X.2.1 dX9_best_11 rfl ?_
  refine lv_lconst (v := 0) X.1 X.2.1 dX9_best_12 (by decide) ?_
  refine lv_ldc2 (v := 3) X.1 X.2.1 X.2.2.2.1 (X.2.2.2.2.1 _ kw_X9_340) dX9_best_13 ?_
  obtain ⟨q_3, eq_3, h⟩ := pz_bd_e h
  refine r_Si X S (c_X9_in eq_3) gd_X9_94 ny_X9_in ⟨rfl, rfl⟩ ⟨Nat.le_of_ble_eq_true rfl, Nat.le_of_ble_eq_true rfl⟩ rfl rfl hl.1 (Nat.le_of_ble_eq_true rfl) dX9_best_16 (fun H locs S => ?_)
  refine lv_if_ne (tgt := 25) X.1 X.2.1 dX9_best_19 (by decide) (fun c_4 => ?_) (fun c_4 => ?_)
  · have h := pz_f c_4 h
    refine lv_aload_n X.1 X.2.1 dX9_best_25 rfl (lv_at hl 0 rfl) ?_
    obtain ⟨q_5, eq_5, h⟩ := pz_bd_e h
    refine r_Vv X S (c_X9_begins hn eq_5) gd_X9_296 ⟨rfl, ny_X9_begins⟩ ⟨rfl, rfl⟩ ⟨Nat.le_of_ble_eq_true rfl, Nat.le_of_ble_eq_true rfl⟩ (r_recv X S (ly_ok_9 (by decide) hn) rfl rfl) rfl rfl hl.1 (Nat.le_of_ble_eq_true rfl) dX9_best_26 (fun H locs S => ?_)
    refine lv_aload_n X.1 X.2.1 dX9_best_29 rfl (lv_at hl 0 rfl) ?_
    refine lv_iconst (v := 0) X.1 X.2.1 dX9_best_30 (by decide) ?_
    refine lv_iconst (v := 0) X.1 X.2.1 dX9_best_31 (by decide) ?_
    refine lv_iload_n X.1 X.2.1 dX9_best_32 rfl (lv_at hl 1 rfl) ?_
    obtain ⟨q_6, eq_6, h⟩ := pz_bd_e h
    refine r_Vv X S (cs_X9_rows hn eq_6) gd_X9_333 ⟨rfl, ny_X9_rows⟩ ⟨rfl, rfl⟩ ⟨Nat.le_of_ble_eq_true rfl, Nat.le_of_ble_eq_true rfl⟩ (r_recv X S (ly_ok_9 (by decide) hn) rfl rfl) rfl rfl hl.1 (Nat.le_of_ble_eq_true rfl) dX9_best_33 (fun H locs S => ?_)
    refine lv_iload_n X.1 X.2.1 dX9_best_36 rfl (lv_at hl 2 rfl) ?_
    refine lv_if_ne (tgt := 47) X.1 X.2.1 dX9_best_37 (by decide) (fun c_7 => ?_) (fun c_7 => ?_)
    · have h := pz_f c_7 h
      refine lv_iload_n X.1 X.2.1 dX9_best_47 rfl (lv_at hl 2 rfl) ?_
      refine lv_iconst (v := 1) X.1 X.2.1 dX9_best_48 (by decide) ?_
      refine lv_icmp_ne (tgt := 59) X.1 X.2.1 dX9_best_49 (by decide) (fun c_8 => ?_) (fun c_8 => ?_)
      · have h := pz_f c_8 h
        refine lv_iload_n X.1 X.2.1 dX9_best_59 rfl (lv_at hl 2 rfl) ?_
        refine lv_iconst (v := 2) X.1 X.2.1 dX9_best_60 (by decide) ?_
        refine lv_icmp_ne (tgt := 71) X.1 X.2.1 dX9_best_61 (by decide) (fun c_9 => ?_) (fun c_9 => ?_)
        · have h := pz_f c_9 h
          refine lv_aload_n X.1 X.2.1 dX9_best_71 rfl (lv_at hl 0 rfl) ?_
          refine gf_X9_327 X S hn (by decide) dX9_best_72 ?_
          cases h
          exact r_iret X S dX9_best_75
        have h := pz_t c_9 h
        refine lv_aload_n X.1 X.2.1 dX9_best_64 rfl (lv_at hl 0 rfl) ?_
        refine gf_X9_321 X S hn (by decide) dX9_best_65 ?_
        refine lv_goto (tgt := 75) X.1 X.2.1 dX9_best_68 (by decide) ?_
        cases h
        exact r_iret X S dX9_best_75
      have h := pz_t c_8 h
      refine lv_aload_n X.1 X.2.1 dX9_best_52 rfl (lv_at hl 0 rfl) ?_
      refine gf_X9_318 X S hn (by decide) dX9_best_53 ?_
      refine lv_goto (tgt := 75) X.1 X.2.1 dX9_best_56 (by decide) ?_
      cases h
      exact r_iret X S dX9_best_75
    have h := pz_t c_7 h
    refine lv_aload_n X.1 X.2.1 dX9_best_40 rfl (lv_at hl 0 rfl) ?_
    refine gf_X9_315 X S hn (by decide) dX9_best_41 ?_
    refine lv_goto (tgt := 75) X.1 X.2.1 dX9_best_44 (by decide) ?_
    cases h
    exact r_iret X S dX9_best_75
  have h := pz_t c_4 h
  refine lv_bipush (v := -2) X.1 X.2.1 dX9_best_22 (by decide) ?_
  cases h
  exact r_iret X S dX9_best_24
def f_X9_deskCalls_L103 (N : Nat) (p1 : Int32) (k7 : mm_T → Int32 → Int32 → Int32 → Int32 → Option (mm_T × Int32)) (J : mm_T) (a1 : Int32) (a2 : Int32) (a3 : Int32) (a4 : Int32) : Option (mm_T × Int32) := pz_lt (a4 + (1 : Int32)) fun x_15 => k7 J a1 a2 a3 x_15
set_option maxRecDepth 100000 in
set_option maxHeartbeats 4000000 in
theorem w_X9_deskCalls_L103 {l : Launch} {G : cx_T} {p : Program} {e : Env} {s : State} {m : MethodId} {args : Array Value} {below : List Frame} {meth : Method} {c : Code} {N n : Nat} {I : mm_T} {p1 : Int32} (X : cx_ok G p s m args meth c cX9_deskCalls 7 RX9 (some .int)) (hn : 144 ≤ n) {k7 : mm_T → Int32 → Int32 → Int32 → Int32 → Option (mm_T × Int32)} {z : mm_T × Int32} (K7 : ∀ {J : mm_T} {a1 : Int32} {a2 : Int32} {a3 : Int32} {a4 : Int32} {H : Heap} {locs : List Loc} {ls : Array Slot}, k7 J a1 a2 a3 a4 = some z → st_ok G n I J s H locs → lv_has ls 7 [(0, .ref (cx_b G + ly_loc 9 0)), (1, .int a1), (2, .int a2), (3, .int a3), (4, .int a4)] → W p l e ({ frames := 68, cells := 0, slots := 0, locals := 2585 }) s m args below meth c H locs 0 0 (MQ below (ct_qi G n I z.1 z.2) args s 0 0 (cx_A G)) (F0 m 7 ls [])) {J : mm_T} {a1 : Int32} {a2 : Int32} {a3 : Int32} {a4 : Int32} {H : Heap} {locs : List Loc} {ls : Array Slot} (h : f_X9_deskCalls_L103 N p1 k7 J a1 a2 a3 a4 = some z) (S : st_ok G n I J s H locs) (hl : lv_has ls 7 [(0, .ref (cx_b G + ly_loc 9 0)), (1, .int a1), (2, .int a2), (3, .int a3), (4, .int a4)]) : W p l e ({ frames := 68, cells := 0, slots := 0, locals := 2585 }) s m args below meth c H locs 0 0 (MQ below (ct_qi G n I z.1 z.2) args s 0 0 (cx_A G)) (F0 m 103 ls []) := by
  unfold f_X9_deskCalls_L103 at h
  obtain ⟨x_15, ex_15⟩ : ∃ y : Int32, y = (a4 + (1 : Int32)) := ⟨_, rfl⟩
  have h := pz_lt_e h ex_15
  refine lv_iinc (v := x_15) (lv' := [(4, .int x_15), (0, .ref (cx_b G + ly_loc 9 0)), (1, .int a1), (2, .int a2), (3, .int a3)]) X.1 X.2.1 dX9_deskCalls_103 hl (k := 4) rfl (by rw [ex_15]; rfl) (by decide) rfl (fun ls hl => ?_)
  refine lv_goto (tgt := 7) X.1 X.2.1 dX9_deskCalls_106 (by decide) ?_
  exact K7 h S (lv_sub hl [1, 2, 3, 4, 0] rfl)
def f_X9_deskCalls_L97 (N : Nat) (p1 : Int32) (k7 : mm_T → Int32 → Int32 → Int32 → Int32 → Option (mm_T × Int32)) (J : mm_T) (a1 : Int32) (a4 : Int32) (a6 : Int32) : Option (mm_T × Int32) := f_X9_deskCalls_L103 N p1 k7 J a1 a4 a6 a4
set_option maxRecDepth 100000 in
set_option maxHeartbeats 4000000 in
theorem w_X9_deskCalls_L97 {l : Launch} {G : cx_T} {p : Program} {e : Env} {s : State} {m : MethodId} {args : Array Value} {below : List Frame} {meth : Method} {c : Code} {N n : Nat} {I : mm_T} {p1 : Int32} (X : cx_ok G p s m args meth c cX9_deskCalls 7 RX9 (some .int)) (hn : 144 ≤ n) {k7 : mm_T → Int32 → Int32 → Int32 → Int32 → Option (mm_T × Int32)} {z : mm_T × Int32} (K7 : ∀ {J : mm_T} {a1 : Int32} {a2 : Int32} {a3 : Int32} {a4 : Int32} {H : Heap} {locs : List Loc} {ls : Array Slot}, k7 J a1 a2 a3 a4 = some z → st_ok G n I J s H locs → lv_has ls 7 [(0, .ref (cx_b G + ly_loc 9 0)), (1, .int a1), (2, .int a2), (3, .int a3), (4, .int a4)] → W p l e ({ frames := 68, cells := 0, slots := 0, locals := 2585 }) s m args below meth c H locs 0 0 (MQ below (ct_qi G n I z.1 z.2) args s 0 0 (cx_A G)) (F0 m 7 ls [])) {J : mm_T} {a1 : Int32} {a4 : Int32} {a6 : Int32} {H : Heap} {locs : List Loc} {ls : Array Slot} (h : f_X9_deskCalls_L97 N p1 k7 J a1 a4 a6 = some z) (S : st_ok G n I J s H locs) (hl : lv_has ls 7 [(0, .ref (cx_b G + ly_loc 9 0)), (1, .int a1), (4, .int a4), (6, .int a6)]) : W p l e ({ frames := 68, cells := 0, slots := 0, locals := 2585 }) s m args below meth c H locs 0 0 (MQ below (ct_qi G n I z.1 z.2) args s 0 0 (cx_A G)) (F0 m 97 ls []) := by
  unfold f_X9_deskCalls_L97 at h
  refine lv_iload X.1 X.2.1 dX9_deskCalls_97 (lv_at hl 2 rfl) ?_
  refine lv_istore_n (lv' := [(2, .int a4), (0, .ref (cx_b G + ly_loc 9 0)), (1, .int a1), (4, .int a4), (6, .int a6)]) X.1 X.2.1 dX9_deskCalls_99 rfl hl (by decide) rfl (fun ls hl => ?_)
  refine lv_iload X.1 X.2.1 dX9_deskCalls_100 (lv_at hl 4 rfl) ?_
  refine lv_istore_n (lv' := [(3, .int a6), (2, .int a4), (0, .ref (cx_b G + ly_loc 9 0)), (1, .int a1), (4, .int a4), (6, .int a6)]) X.1 X.2.1 dX9_deskCalls_102 rfl hl (by decide) rfl (fun ls hl => ?_)
  exact w_X9_deskCalls_L103 X hn K7 h S (lv_sub hl [2, 3, 1, 0, 4] rfl)
def f_X9_deskCalls_L7 (N : Nat) (p1 : Int32) : Nat → mm_T → Int32 → Int32 → Int32 → Int32 → Option (mm_T × Int32)
  | 0, _, _, _, _, _ => none
  | cnt + 1, J, a1, a2, a3, a4 => if (J 9 0 14) ≤ a4 then (some (J, a2)) else (if ((((J 9 0 39) ||| a1) >>> (a4 &&& 31)) &&& (1 : Int32)) = 0 then (pz_bd (f_X9_canSing N J a4) fun q_3 => if q_3 = 0 then (f_X9_deskCalls_L103 N p1 (f_X9_deskCalls_L7 N p1 cnt) J a1 a2 a3 a4) else (pz_gd (ix_in a4 7) <| pz_gd (ix_in (J 38 0 a4.toNatClampNeg) 8) <| pz_lt (J 34 0 (J 38 0 a4.toNatClampNeg).toNatClampNeg) fun x_7 => pz_gd (ix_in x_7 8) <| pz_gd (ix_in x_7 8) <| pz_gd (ix_in a4 7) <| pz_bd (f_X9_says N J (2 : Int32) ((J 9 0 32) - (J 39 0 x_7.toNatClampNeg)) (J 40 0 x_7.toNatClampNeg) (J 35 0 a4.toNatClampNeg)) fun q_11 => pz_lt q_11.2 fun x_12 => if a2 = (-1 : Int32) then (f_X9_deskCalls_L97 N p1 (f_X9_deskCalls_L7 N p1 cnt) q_11.1 a1 a4 x_12) else (if x_12 ≤ a3 then (f_X9_deskCalls_L103 N p1 (f_X9_deskCalls_L7 N p1 cnt) q_11.1 a1 a2 a3 a4) else (f_X9_deskCalls_L97 N p1 (f_X9_deskCalls_L7 N p1 cnt) q_11.1 a1 a4 x_12)))) else (f_X9_deskCalls_L103 N p1 (f_X9_deskCalls_L7 N p1 cnt) J a1 a2 a3 a4))
set_option maxRecDepth 100000 in
set_option maxHeartbeats 4000000 in
theorem w_X9_deskCalls_L7 {l : Launch} {G : cx_T} {p : Program} {e : Env} {s : State} {m : MethodId} {args : Array Value} {below : List Frame} {meth : Method} {c : Code} {N n : Nat} {I : mm_T} {p1 : Int32} (X : cx_ok G p s m args meth c cX9_deskCalls 7 RX9 (some .int)) (hn : 144 ≤ n) {z : mm_T × Int32} : ∀ (cnt : Nat) {J : mm_T} {a1 : Int32} {a2 : Int32} {a3 : Int32} {a4 : Int32} {H : Heap} {locs : List Loc} {ls : Array Slot} , f_X9_deskCalls_L7 N p1 cnt J a1 a2 a3 a4 = some z → st_ok G n I J s H locs → lv_has ls 7 [(0, .ref (cx_b G + ly_loc 9 0)), (1, .int a1), (2, .int a2), (3, .int a3), (4, .int a4)] → W p l e ({ frames := 68, cells := 0, slots := 0, locals := 2585 }) s m args below meth c H locs 0 0 (MQ below (ct_qi G n I z.1 z.2) args s 0 0 (cx_A G)) (F0 m 7 ls []) := by
  intro cnt
  induction cnt with
  | zero =>
    intro J a1 a2 a3 a4 H locs ls h
    rw [f_X9_deskCalls_L7] at h
    cases h
  | succ cnt ih =>
    intro J a1 a2 a3 a4 H locs ls h S hl
    rw [f_X9_deskCalls_L7] at h
    refine lv_iload X.1 X.2.1 dX9_deskCalls_7 (lv_at hl 4 rfl) ?_
    refine lv_aload_n X.1 X.2.1 dX9_deskCalls_9 rfl (lv_at hl 0 rfl) ?_
    refine gf_X9_98 X S hn (by decide) dX9_deskCalls_10 ?_
    refine lv_icmp_ge (tgt := 109) X.1 X.2.1 dX9_deskCalls_13 (by decide) (fun c_1 => ?_) (fun c_1 => ?_)
    · have h := pz_t c_1 h
      refine lv_iload_n X.1 X.2.1 dX9_deskCalls_109 rfl (lv_at hl 2 rfl) ?_
      cases h
      exact r_iret X S dX9_deskCalls_110
    have h := pz_f c_1 h
    refine lv_aload_n X.1 X.2.1 dX9_deskCalls_16 rfl (lv_at hl 0 rfl) ?_
    refine gf_X9_271 X S hn (by decide) dX9_deskCalls_17 ?_
    refine lv_iload_n X.1 X.2.1 dX9_deskCalls_20 rfl (lv_at hl 1 rfl) ?_
    refine lv_ior X.1 X.2.1 dX9_deskCalls_21 ?_
    refine lv_iload X.1 X.2.1 dX9_deskCalls_22 (lv_at hl 4 rfl) ?_
    refine lv_ishr X.1 X.2.1 dX9_deskCalls_24 ?_
    refine lv_iconst (v := 1) X.1 X.2.1 dX9_deskCalls_25 (by decide) ?_
    refine lv_iand X.1 X.2.1 dX9_deskCalls_26 ?_
    refine lv_if_ne (tgt := 103) X.1 X.2.1 dX9_deskCalls_27 (by decide) (fun c_2 => ?_) (fun c_2 => ?_)
    · have h := pz_f c_2 h
      exact w_X9_deskCalls_L103 X hn ih h S (lv_sub hl [0, 1, 2, 3, 4] rfl)
    have h := pz_t c_2 h
    refine lv_aload_n X.1 X.2.1 dX9_deskCalls_30 rfl (lv_at hl 0 rfl) ?_
    refine lv_iload X.1 X.2.1 dX9_deskCalls_31 (lv_at hl 4 rfl) ?_
    obtain ⟨q_3, eq_3, h⟩ := pz_bd_e h
    refine r_Vi X S (c_X9_canSing hn eq_3) gd_X9_277 ⟨rfl, ny_X9_canSing⟩ ⟨rfl, rfl⟩ ⟨Nat.le_of_ble_eq_true rfl, Nat.le_of_ble_eq_true rfl⟩ (r_recv X S (ly_ok_9 (by decide) hn) rfl rfl) rfl rfl hl.1 (Nat.le_of_ble_eq_true rfl) dX9_deskCalls_33 (fun H locs S => ?_)
    refine lv_if_eq (tgt := 103) X.1 X.2.1 dX9_deskCalls_36 (by decide) (fun c_4 => ?_) (fun c_4 => ?_)
    · have h := pz_t c_4 h
      exact w_X9_deskCalls_L103 X hn ih h S (lv_sub hl [0, 1, 2, 3, 4] rfl)
    have h := pz_f c_4 h
    refine lv_aload_n X.1 X.2.1 dX9_deskCalls_39 rfl (lv_at hl 0 rfl) ?_
    refine gf_X9_26 X S hn (by decide) dX9_deskCalls_40 ?_
    refine lv_aload_n X.1 X.2.1 dX9_deskCalls_43 rfl (lv_at hl 0 rfl) ?_
    refine gf_X9_38 X S hn (by decide) dX9_deskCalls_44 ?_
    refine lv_iload X.1 X.2.1 dX9_deskCalls_47 (lv_at hl 4 rfl) ?_
    obtain ⟨g_5, h⟩ := pz_gd_e h
    refine al_38 X S hn (by decide) g_5 dX9_deskCalls_49 ?_
    obtain ⟨g_6, h⟩ := pz_gd_e h
    refine al_34 X S hn (by decide) g_6 dX9_deskCalls_50 ?_
    refine lv_topi (fun x_7 ex_7 => ?_)
    have h := pz_lt_e h ex_7
    refine lv_istore (lv' := [(5, .int x_7), (0, .ref (cx_b G + ly_loc 9 0)), (1, .int a1), (2, .int a2), (3, .int a3), (4, .int a4)]) X.1 X.2.1 dX9_deskCalls_51 hl (by decide) rfl (fun ls hl => ?_)
    refine lv_aload_n X.1 X.2.1 dX9_deskCalls_53 rfl (lv_at hl 1 rfl) ?_
    refine lv_iconst (v := 2) X.1 X.2.1 dX9_deskCalls_54 (by decide) ?_
    refine lv_aload_n X.1 X.2.1 dX9_deskCalls_55 rfl (lv_at hl 1 rfl) ?_
    refine gf_X9_252 X S hn (by decide) dX9_deskCalls_56 ?_
    refine lv_aload_n X.1 X.2.1 dX9_deskCalls_59 rfl (lv_at hl 1 rfl) ?_
    refine gf_X9_44 X S hn (by decide) dX9_deskCalls_60 ?_
    refine lv_iload X.1 X.2.1 dX9_deskCalls_63 (lv_at hl 0 rfl) ?_
    obtain ⟨g_8, h⟩ := pz_gd_e h
    refine al_39 X S hn (by decide) g_8 dX9_deskCalls_65 ?_
    refine lv_isub X.1 X.2.1 dX9_deskCalls_66 ?_
    refine lv_aload_n X.1 X.2.1 dX9_deskCalls_67 rfl (lv_at hl 1 rfl) ?_
    refine gf_X9_47 X S hn (by decide) dX9_deskCalls_68 ?_
    refine lv_iload X.1 X.2.1 dX9_deskCalls_71 (lv_at hl 0 rfl) ?_
    obtain ⟨g_9, h⟩ := pz_gd_e h
    refine al_40 X S hn (by decide) g_9 dX9_deskCalls_73 ?_
    refine lv_aload_n X.1 X.2.1 dX9_deskCalls_74 rfl (lv_at hl 1 rfl) ?_
    refine gf_X9_29 X S hn (by decide) dX9_deskCalls_75 ?_
    refine lv_iload X.1 X.2.1 dX9_deskCalls_78 (lv_at hl 5 rfl) ?_
    obtain ⟨g_10, h⟩ := pz_gd_e h
    refine al_35 X S hn (by decide) g_10 dX9_deskCalls_80 ?_
    obtain ⟨q_11, eq_11, h⟩ := pz_bd_e h
    refine r_Vi X S (c_X9_says hn eq_11) gd_X9_289 ⟨rfl, ny_X9_says⟩ ⟨rfl, rfl⟩ ⟨Nat.le_of_ble_eq_true rfl, Nat.le_of_ble_eq_true rfl⟩ (r_recv X S (ly_ok_9 (by decide) hn) rfl rfl) rfl rfl hl.1 (Nat.le_of_ble_eq_true rfl) dX9_deskCalls_81 (fun H locs S => ?_)
    refine lv_topi (fun x_12 ex_12 => ?_)
    have h := pz_lt_e h ex_12
    refine lv_istore (lv' := [(6, .int x_12), (5, .int x_7), (0, .ref (cx_b G + ly_loc 9 0)), (1, .int a1), (2, .int a2), (3, .int a3), (4, .int a4)]) X.1 X.2.1 dX9_deskCalls_84 hl (by decide) rfl (fun ls hl => ?_)
    refine lv_iload_n X.1 X.2.1 dX9_deskCalls_86 rfl (lv_at hl 4 rfl) ?_
    refine lv_iconst (v := -1) X.1 X.2.1 dX9_deskCalls_87 (by decide) ?_
    refine lv_icmp_eq (tgt := 97) X.1 X.2.1 dX9_deskCalls_88 (by decide) (fun c_13 => ?_) (fun c_13 => ?_)
    · have h := pz_t c_13 h
      exact w_X9_deskCalls_L97 X hn ih h S (lv_sub hl [2, 3, 6, 0] rfl)
    have h := pz_f c_13 h
    refine lv_iload X.1 X.2.1 dX9_deskCalls_91 (lv_at hl 0 rfl) ?_
    refine lv_iload_n X.1 X.2.1 dX9_deskCalls_93 rfl (lv_at hl 5 rfl) ?_
    refine lv_icmp_le (tgt := 103) X.1 X.2.1 dX9_deskCalls_94 (by decide) (fun c_14 => ?_) (fun c_14 => ?_)
    · have h := pz_t c_14 h
      exact w_X9_deskCalls_L103 X hn ih h S (lv_sub hl [2, 3, 4, 5, 6] rfl)
    have h := pz_f c_14 h
    exact w_X9_deskCalls_L97 X hn ih h S (lv_sub hl [2, 3, 6, 0] rfl)
def f_X9_deskCalls (N : Nat) (J : mm_T) (p1 : Int32) : Option (mm_T × Int32) := f_X9_deskCalls_L7 N p1 N J p1 (-1 : Int32) (0 : Int32) (0 : Int32)
set_option maxRecDepth 100000 in
set_option maxHeartbeats 4000000 in
theorem c_X9_deskCalls {l : Launch} {G : cx_T} {N n : Nat} {I J : mm_T} {p1 : Int32} (hn : 144 ≤ n) {z : mm_T × Int32} (h : f_X9_deskCalls N J p1 = some z) : ct_m l G n yX9_deskCalls cX9_deskCalls 7 (some .int) ({ frames := 68, cells := 0, slots := 0, locals := 2585 }) [.ref (cx_b G + ly_loc 9 0), .int p1] I J (ct_qi G n I z.1 z.2) := by
  refine ct_en (by decide) (Nat.le_of_ble_eq_true rfl) ?_
  intro p e s m args below meth c ls X S hl
  have X : cx_ok G p s m args meth c cX9_deskCalls 7 RX9 (some .int) := X
  have hl : lv_has ls 7 [(0, .ref (cx_b G + ly_loc 9 0)), (1, .int p1)] := hl
  unfold f_X9_deskCalls at h
  refine lv_iconst (v := -1) X.1 X.2.1 dX9_deskCalls_0 (by decide) ?_
  refine lv_istore_n (lv' := [(2, .int (-1 : Int32)), (0, .ref (cx_b G + ly_loc 9 0)), (1, .int p1)]) X.1 X.2.1 dX9_deskCalls_1 rfl hl (by decide) rfl (fun ls hl => ?_)
  refine lv_iconst (v := 0) X.1 X.2.1 dX9_deskCalls_2 (by decide) ?_
  refine lv_istore_n (lv' := [(3, .int (0 : Int32)), (2, .int (-1 : Int32)), (0, .ref (cx_b G + ly_loc 9 0)), (1, .int p1)]) X.1 X.2.1 dX9_deskCalls_3 rfl hl (by decide) rfl (fun ls hl => ?_)
  refine lv_iconst (v := 0) X.1 X.2.1 dX9_deskCalls_4 (by decide) ?_
  refine lv_istore (lv' := [(4, .int (0 : Int32)), (3, .int (0 : Int32)), (2, .int (-1 : Int32)), (0, .ref (cx_b G + ly_loc 9 0)), (1, .int p1)]) X.1 X.2.1 dX9_deskCalls_5 hl (by decide) rfl (fun ls hl => ?_)
  exact w_X9_deskCalls_L7 X hn N h S (lv_sub hl [3, 4, 2, 1, 0] rfl)
def f_X9_goesOn_L11 (N : Nat) (p1 : Int32) : Nat → mm_T → Int32 → Int32 → Option (mm_T)
  | 0, _, _, _ => none
  | cnt + 1, J, a1, a2 => if a2 = (-1 : Int32) then (some J) else (pz_bd (f_X9_calls N J a2) fun q_5 => pz_lt (mm_up q_5 9 0 49 ((((10 : Int32) * (q_5 9 0 49)) + a2) + (1 : Int32))) fun J_6 => pz_bd (f_X9_deskCalls N J_6 a1) fun q_7 => pz_lt q_7.2 fun x_8 => f_X9_goesOn_L11 N p1 cnt q_7.1 a1 x_8)
set_option maxRecDepth 100000 in
set_option maxHeartbeats 4000000 in
theorem w_X9_goesOn_L11 {l : Launch} {G : cx_T} {p : Program} {e : Env} {s : State} {m : MethodId} {args : Array Value} {below : List Frame} {meth : Method} {c : Code} {N n : Nat} {I : mm_T} {p1 : Int32} (X : cx_ok G p s m args meth c cX9_goesOn 3 RX9 none) (hn : 144 ≤ n) {z : mm_T} : ∀ (cnt : Nat) {J : mm_T} {a1 : Int32} {a2 : Int32} {H : Heap} {locs : List Loc} {ls : Array Slot} , f_X9_goesOn_L11 N p1 cnt J a1 a2 = some z → st_ok G n I J s H locs → lv_has ls 3 [(0, .ref (cx_b G + ly_loc 9 0)), (1, .int a1), (2, .int a2)] → W p l e ({ frames := 69, cells := 0, slots := 0, locals := 2611 }) s m args below meth c H locs 0 0 (MQ below (ct_qv G n I z) args s 0 0 (cx_A G)) (F0 m 11 ls []) := by
  intro cnt
  induction cnt with
  | zero =>
    intro J a1 a2 H locs ls h
    rw [f_X9_goesOn_L11] at h
    cases h
  | succ cnt ih =>
    intro J a1 a2 H locs ls h S hl
    rw [f_X9_goesOn_L11] at h
    refine lv_iload_n X.1 X.2.1 dX9_goesOn_11 rfl (lv_at hl 2 rfl) ?_
    refine lv_iconst (v := -1) X.1 X.2.1 dX9_goesOn_12 (by decide) ?_
    refine lv_icmp_eq (tgt := 45) X.1 X.2.1 dX9_goesOn_13 (by decide) (fun c_4 => ?_) (fun c_4 => ?_)
    · have h := pz_t c_4 h
      cases h
      exact r_vret X S dX9_goesOn_45
    have h := pz_f c_4 h
    refine lv_aload_n X.1 X.2.1 dX9_goesOn_16 rfl (lv_at hl 0 rfl) ?_
    refine lv_iload_n X.1 X.2.1 dX9_goesOn_17 rfl (lv_at hl 2 rfl) ?_
    obtain ⟨q_5, eq_5, h⟩ := pz_bd_e h
    refine r_Vv X S (c_X9_calls hn eq_5) gd_X9_302 ⟨rfl, ny_X9_calls⟩ ⟨rfl, rfl⟩ ⟨Nat.le_of_ble_eq_true rfl, Nat.le_of_ble_eq_true rfl⟩ (r_recv X S (ly_ok_9 (by decide) hn) rfl rfl) rfl rfl hl.1 (Nat.le_of_ble_eq_true rfl) dX9_goesOn_18 (fun H locs S => ?_)
    refine lv_aload_n X.1 X.2.1 dX9_goesOn_21 rfl (lv_at hl 0 rfl) ?_
    refine lv_bipush (v := 10) X.1 X.2.1 dX9_goesOn_22 (by decide) ?_
    refine lv_aload_n X.1 X.2.1 dX9_goesOn_24 rfl (lv_at hl 0 rfl) ?_
    refine gf_X9_342 X S hn (by decide) dX9_goesOn_25 ?_
    refine lv_imul X.1 X.2.1 dX9_goesOn_28 ?_
    refine lv_iload_n X.1 X.2.1 dX9_goesOn_29 rfl (lv_at hl 2 rfl) ?_
    refine lv_iadd X.1 X.2.1 dX9_goesOn_30 ?_
    refine lv_iconst (v := 1) X.1 X.2.1 dX9_goesOn_31 (by decide) ?_
    refine lv_iadd X.1 X.2.1 dX9_goesOn_32 ?_
    refine pf_X9_342 X S hn (by decide) dX9_goesOn_33 (fun J_6 H locs eJ_6 S => ?_)
    have h := pz_lt_e h eJ_6
    refine lv_aload_n X.1 X.2.1 dX9_goesOn_36 rfl (lv_at hl 0 rfl) ?_
    refine lv_iload_n X.1 X.2.1 dX9_goesOn_37 rfl (lv_at hl 1 rfl) ?_
    obtain ⟨q_7, eq_7, h⟩ := pz_bd_e h
    refine r_Vi X S (c_X9_deskCalls hn eq_7) gd_X9_345 ⟨rfl, ny_X9_deskCalls⟩ ⟨rfl, rfl⟩ ⟨Nat.le_of_ble_eq_true rfl, Nat.le_of_ble_eq_true rfl⟩ (r_recv X S (ly_ok_9 (by decide) hn) rfl rfl) rfl rfl hl.1 (Nat.le_of_ble_eq_true rfl) dX9_goesOn_38 (fun H locs S => ?_)
    refine lv_topi (fun x_8 ex_8 => ?_)
    have h := pz_lt_e h ex_8
    refine lv_istore_n (lv' := [(2, .int x_8), (0, .ref (cx_b G + ly_loc 9 0)), (1, .int a1)]) X.1 X.2.1 dX9_goesOn_41 rfl hl (by decide) rfl (fun ls hl => ?_)
    refine lv_goto (tgt := 11) X.1 X.2.1 dX9_goesOn_42 (by decide) ?_
    exact ih h S (lv_sub hl [1, 2, 0] rfl)
def f_X9_goesOn (N : Nat) (J : mm_T) (p1 : Int32) : Option (mm_T) := pz_lt (mm_up J 9 0 49 (0 : Int32)) fun J_1 => pz_bd (f_X9_deskCalls N J_1 p1) fun q_2 => pz_lt q_2.2 fun x_3 => f_X9_goesOn_L11 N p1 N q_2.1 p1 x_3
set_option maxRecDepth 100000 in
set_option maxHeartbeats 4000000 in
theorem c_X9_goesOn {l : Launch} {G : cx_T} {N n : Nat} {I J : mm_T} {p1 : Int32} (hn : 144 ≤ n) {z : mm_T} (h : f_X9_goesOn N J p1 = some z) : ct_m l G n yX9_goesOn cX9_goesOn 3 none ({ frames := 69, cells := 0, slots := 0, locals := 2611 }) [.ref (cx_b G + ly_loc 9 0), .int p1] I J (ct_qv G n I z) := by
  refine ct_en (by decide) (Nat.le_of_ble_eq_true rfl) ?_
  intro p e s m args below meth c ls X S hl
  have X : cx_ok G p s m args meth c cX9_goesOn 3 RX9 none := X
  have hl : lv_has ls 3 [(0, .ref (cx_b G + ly_loc 9 0)), (1, .int p1)] := hl
  unfold f_X9_goesOn at h
  refine lv_aload_n X.1 X.2.1 dX9_goesOn_0 rfl (lv_at hl 0 rfl) ?_
  refine lv_iconst (v := 0) X.1 X.2.1 dX9_goesOn_1 (by decide) ?_
  refine pf_X9_342 X S hn (by decide) dX9_goesOn_2 (fun J_1 H locs eJ_1 S => ?_)
  have h := pz_lt_e h eJ_1
  refine lv_aload_n X.1 X.2.1 dX9_goesOn_5 rfl (lv_at hl 0 rfl) ?_
  refine lv_iload_n X.1 X.2.1 dX9_goesOn_6 rfl (lv_at hl 1 rfl) ?_
  obtain ⟨q_2, eq_2, h⟩ := pz_bd_e h
  refine r_Vi X S (c_X9_deskCalls hn eq_2) gd_X9_345 ⟨rfl, ny_X9_deskCalls⟩ ⟨rfl, rfl⟩ ⟨Nat.le_of_ble_eq_true rfl, Nat.le_of_ble_eq_true rfl⟩ (r_recv X S (ly_ok_9 (by decide) hn) rfl rfl) rfl rfl hl.1 (Nat.le_of_ble_eq_true rfl) dX9_goesOn_7 (fun H locs S => ?_)
  refine lv_topi (fun x_3 ex_3 => ?_)
  have h := pz_lt_e h ex_3
  refine lv_istore_n (lv' := [(2, .int x_3), (0, .ref (cx_b G + ly_loc 9 0)), (1, .int p1)]) X.1 X.2.1 dX9_goesOn_10 rfl hl (by decide) rfl (fun ls hl => ?_)
  exact w_X9_goesOn_L11 X hn N h S (lv_sub hl [1, 2, 0] rfl)
def f_X9_desks (N : Nat) (J : mm_T) (p1 : Int32) : Option (mm_T) := pz_bd (f_X9_begins N J) fun q_1 => pz_bd (f_X9_goesOn N q_1 p1) fun q_2 => some q_2
set_option maxRecDepth 100000 in
set_option maxHeartbeats 4000000 in
theorem c_X9_desks {l : Launch} {G : cx_T} {N n : Nat} {I J : mm_T} {p1 : Int32} (hn : 144 ≤ n) {z : mm_T} (h : f_X9_desks N J p1 = some z) : ct_m l G n yX9_desks cX9_desks 2 none ({ frames := 70, cells := 0, slots := 0, locals := 2633 }) [.ref (cx_b G + ly_loc 9 0), .int p1] I J (ct_qv G n I z) := by
  refine ct_en (by decide) (Nat.le_of_ble_eq_true rfl) ?_
  intro p e s m args below meth c ls X S hl
  have X : cx_ok G p s m args meth c cX9_desks 2 RX9 none := X
  have hl : lv_has ls 2 [(0, .ref (cx_b G + ly_loc 9 0)), (1, .int p1)] := hl
  unfold f_X9_desks at h
  refine lv_aload_n X.1 X.2.1 dX9_desks_0 rfl (lv_at hl 0 rfl) ?_
  obtain ⟨q_1, eq_1, h⟩ := pz_bd_e h
  refine r_Vv X S (c_X9_begins hn eq_1) gd_X9_296 ⟨rfl, ny_X9_begins⟩ ⟨rfl, rfl⟩ ⟨Nat.le_of_ble_eq_true rfl, Nat.le_of_ble_eq_true rfl⟩ (r_recv X S (ly_ok_9 (by decide) hn) rfl rfl) rfl rfl hl.1 (Nat.le_of_ble_eq_true rfl) dX9_desks_1 (fun H locs S => ?_)
  refine lv_aload_n X.1 X.2.1 dX9_desks_4 rfl (lv_at hl 0 rfl) ?_
  refine lv_iload_n X.1 X.2.1 dX9_desks_5 rfl (lv_at hl 1 rfl) ?_
  obtain ⟨q_2, eq_2, h⟩ := pz_bd_e h
  refine r_Vv X S (c_X9_goesOn hn eq_2) gd_X9_348 ⟨rfl, ny_X9_goesOn⟩ ⟨rfl, rfl⟩ ⟨Nat.le_of_ble_eq_true rfl, Nat.le_of_ble_eq_true rfl⟩ (r_recv X S (ly_ok_9 (by decide) hn) rfl rfl) rfl rfl hl.1 (Nat.le_of_ble_eq_true rfl) dX9_desks_6 (fun H locs S => ?_)
  cases h
  exact r_vret X S dX9_desks_9
def f_X9_desk (N : Nat) (J : mm_T) (p1 : Int32) : Option (mm_T × Int32) := pz_bd (f_X9_in N (p1.toInt64) (0 : Int64) (6 : Int64)) fun q_1 => if q_1 = 0 then (some (J, (-100000 : Int32))) else (pz_bd (f_X9_desks N J (0 : Int32)) fun q_3 => if p1 = (6 : Int32) then (some (q_3, (q_3 9 0 49))) else (pz_bd (f_X9_tells N q_3 p1) fun q_5 => some (q_3, q_5)))
set_option maxRecDepth 100000 in
set_option maxHeartbeats 4000000 in
theorem c_X9_desk {l : Launch} {G : cx_T} {N n : Nat} {I J : mm_T} {p1 : Int32} (hn : 144 ≤ n) {z : mm_T × Int32} (h : f_X9_desk N J p1 = some z) : ct_m l G n yX9_desk cX9_desk 2 (some .int) ({ frames := 71, cells := 0, slots := 0, locals := 2654 }) [.ref (cx_b G + ly_loc 9 0), .int p1] I J (ct_qi G n I z.1 z.2) := by
  refine ct_en (by decide) (Nat.le_of_ble_eq_true rfl) ?_
  intro p e s m args below meth c ls X S hl
  have X : cx_ok G p s m args meth c cX9_desk 2 RX9 (some .int) := X
  have hl : lv_has ls 2 [(0, .ref (cx_b G + ly_loc 9 0)), (1, .int p1)] := hl
  unfold f_X9_desk at h
  refine lv_iload_n X.1 X.2.1 dX9_desk_0 rfl (lv_at hl 1 rfl) ?_
  refine lv_i2l X.1 X.2.1 dX9_desk_1 rfl ?_
  refine lv_lconst (v := 0) X.1 X.2.1 dX9_desk_2 (by decide) ?_
  refine lv_ldc2 (v := 6) X.1 X.2.1 X.2.2.2.1 (X.2.2.2.2.1 _ kw_X9_113) dX9_desk_3 ?_
  obtain ⟨q_1, eq_1, h⟩ := pz_bd_e h
  refine r_Si X S (c_X9_in eq_1) gd_X9_94 ny_X9_in ⟨rfl, rfl⟩ ⟨Nat.le_of_ble_eq_true rfl, Nat.le_of_ble_eq_true rfl⟩ rfl rfl hl.1 (Nat.le_of_ble_eq_true rfl) dX9_desk_6 (fun H locs S => ?_)
  refine lv_if_ne (tgt := 15) X.1 X.2.1 dX9_desk_9 (by decide) (fun c_2 => ?_) (fun c_2 => ?_)
  · have h := pz_f c_2 h
    refine lv_aload_n X.1 X.2.1 dX9_desk_15 rfl (lv_at hl 0 rfl) ?_
    refine lv_iconst (v := 0) X.1 X.2.1 dX9_desk_16 (by decide) ?_
    obtain ⟨q_3, eq_3, h⟩ := pz_bd_e h
    refine r_Vv X S (c_X9_desks hn eq_3) gd_X9_351 ⟨rfl, ny_X9_desks⟩ ⟨rfl, rfl⟩ ⟨Nat.le_of_ble_eq_true rfl, Nat.le_of_ble_eq_true rfl⟩ (r_recv X S (ly_ok_9 (by decide) hn) rfl rfl) rfl rfl hl.1 (Nat.le_of_ble_eq_true rfl) dX9_desk_17 (fun H locs S => ?_)
    refine lv_iload_n X.1 X.2.1 dX9_desk_20 rfl (lv_at hl 1 rfl) ?_
    refine lv_bipush (v := 6) X.1 X.2.1 dX9_desk_21 (by decide) ?_
    refine lv_icmp_ne (tgt := 33) X.1 X.2.1 dX9_desk_23 (by decide) (fun c_4 => ?_) (fun c_4 => ?_)
    · have h := pz_f c_4 h
      refine lv_aload_n X.1 X.2.1 dX9_desk_33 rfl (lv_at hl 0 rfl) ?_
      refine lv_iload_n X.1 X.2.1 dX9_desk_34 rfl (lv_at hl 1 rfl) ?_
      obtain ⟨q_5, eq_5, h⟩ := pz_bd_e h
      refine r_Vi X S (c_X9_tells hn eq_5) gd_X9_312 ⟨rfl, ny_X9_tells⟩ ⟨rfl, rfl⟩ ⟨Nat.le_of_ble_eq_true rfl, Nat.le_of_ble_eq_true rfl⟩ (r_recv X S (ly_ok_9 (by decide) hn) rfl rfl) rfl rfl hl.1 (Nat.le_of_ble_eq_true rfl) dX9_desk_35 (fun H locs S => ?_)
      cases h
      exact r_iret X S dX9_desk_38
    have h := pz_t c_4 h
    refine lv_aload_n X.1 X.2.1 dX9_desk_26 rfl (lv_at hl 0 rfl) ?_
    refine gf_X9_342 X S hn (by decide) dX9_desk_27 ?_
    refine lv_goto (tgt := 38) X.1 X.2.1 dX9_desk_30 (by decide) ?_
    cases h
    exact r_iret X S dX9_desk_38
  have h := pz_t c_2 h
  refine lv_ldc (v := -100000) X.1 X.2.1 X.2.2.2.1 (X.2.2.2.2.1 _ kw_X9_122) dX9_desk_12 ?_
  cases h
  exact r_iret X S dX9_desk_14
def f_X9_wait (N : Nat) (J : mm_T) (p1 : Int32) : Option (mm_T × Int32) := pz_bd (f_X9_isSlip N J p1) fun q_1 => if q_1 = 0 then (some (J, (-2 : Int32))) else (pz_bd (f_X9_desks N J (0 : Int32)) fun q_3 => if (((q_3 9 0 40) >>> (p1 &&& 31)) &&& (1 : Int32)) = (1 : Int32) then (pz_gd (ix_in p1 7) <| some (q_3, (q_3 41 0 p1.toNatClampNeg))) else (some (q_3, (-1 : Int32))))
set_option maxRecDepth 100000 in
set_option maxHeartbeats 4000000 in
theorem c_X9_wait {l : Launch} {G : cx_T} {N n : Nat} {I J : mm_T} {p1 : Int32} (hn : 144 ≤ n) {z : mm_T × Int32} (h : f_X9_wait N J p1 = some z) : ct_m l G n yX9_wait cX9_wait 2 (some .int) ({ frames := 71, cells := 0, slots := 0, locals := 2654 }) [.ref (cx_b G + ly_loc 9 0), .int p1] I J (ct_qi G n I z.1 z.2) := by
  refine ct_en (by decide) (Nat.le_of_ble_eq_true rfl) ?_
  intro p e s m args below meth c ls X S hl
  have X : cx_ok G p s m args meth c cX9_wait 2 RX9 (some .int) := X
  have hl : lv_has ls 2 [(0, .ref (cx_b G + ly_loc 9 0)), (1, .int p1)] := hl
  unfold f_X9_wait at h
  refine lv_aload_n X.1 X.2.1 dX9_wait_0 rfl (lv_at hl 0 rfl) ?_
  refine lv_iload_n X.1 X.2.1 dX9_wait_1 rfl (lv_at hl 1 rfl) ?_
  obtain ⟨q_1, eq_1, h⟩ := pz_bd_e h
  refine r_Vi X S (c_X9_isSlip hn eq_1) gd_X9_119 ⟨rfl, ny_X9_isSlip⟩ ⟨rfl, rfl⟩ ⟨Nat.le_of_ble_eq_true rfl, Nat.le_of_ble_eq_true rfl⟩ (r_recv X S (ly_ok_9 (by decide) hn) rfl rfl) rfl rfl hl.1 (Nat.le_of_ble_eq_true rfl) dX9_wait_2 (fun H locs S => ?_)
  refine lv_if_ne (tgt := 11) X.1 X.2.1 dX9_wait_5 (by decide) (fun c_2 => ?_) (fun c_2 => ?_)
  · have h := pz_f c_2 h
    refine lv_aload_n X.1 X.2.1 dX9_wait_11 rfl (lv_at hl 0 rfl) ?_
    refine lv_iconst (v := 0) X.1 X.2.1 dX9_wait_12 (by decide) ?_
    obtain ⟨q_3, eq_3, h⟩ := pz_bd_e h
    refine r_Vv X S (c_X9_desks hn eq_3) gd_X9_351 ⟨rfl, ny_X9_desks⟩ ⟨rfl, rfl⟩ ⟨Nat.le_of_ble_eq_true rfl, Nat.le_of_ble_eq_true rfl⟩ (r_recv X S (ly_ok_9 (by decide) hn) rfl rfl) rfl rfl hl.1 (Nat.le_of_ble_eq_true rfl) dX9_wait_13 (fun H locs S => ?_)
    refine lv_aload_n X.1 X.2.1 dX9_wait_16 rfl (lv_at hl 0 rfl) ?_
    refine gf_X9_274 X S hn (by decide) dX9_wait_17 ?_
    refine lv_iload_n X.1 X.2.1 dX9_wait_20 rfl (lv_at hl 1 rfl) ?_
    refine lv_ishr X.1 X.2.1 dX9_wait_21 ?_
    refine lv_iconst (v := 1) X.1 X.2.1 dX9_wait_22 (by decide) ?_
    refine lv_iand X.1 X.2.1 dX9_wait_23 ?_
    refine lv_iconst (v := 1) X.1 X.2.1 dX9_wait_24 (by decide) ?_
    refine lv_icmp_ne (tgt := 37) X.1 X.2.1 dX9_wait_25 (by decide) (fun c_4 => ?_) (fun c_4 => ?_)
    · have h := pz_f c_4 h
      refine lv_iconst (v := -1) X.1 X.2.1 dX9_wait_37 (by decide) ?_
      cases h
      exact r_iret X S dX9_wait_38
    have h := pz_t c_4 h
    refine lv_aload_n X.1 X.2.1 dX9_wait_28 rfl (lv_at hl 0 rfl) ?_
    refine gf_X9_50 X S hn (by decide) dX9_wait_29 ?_
    refine lv_iload_n X.1 X.2.1 dX9_wait_32 rfl (lv_at hl 1 rfl) ?_
    obtain ⟨g_5, h⟩ := pz_gd_e h
    refine al_41 X S hn (by decide) g_5 dX9_wait_33 ?_
    refine lv_goto (tgt := 38) X.1 X.2.1 dX9_wait_34 (by decide) ?_
    cases h
    exact r_iret X S dX9_wait_38
  have h := pz_t c_2 h
  refine lv_bipush (v := -2) X.1 X.2.1 dX9_wait_8 (by decide) ?_
  cases h
  exact r_iret X S dX9_wait_10
def f_X9_refuse_L61 (N : Nat) (p1 : Int32) (k28 : mm_T → Int32 → Int32 → Int32 → Int32 → Option (mm_T × Int32)) (J : mm_T) (a1 : Int32) (a2 : Int32) (a3 : Int32) (a4 : Int32) : Option (mm_T × Int32) := pz_lt (a4 + (1 : Int32)) fun x_10 => k28 J a1 a2 a3 x_10
set_option maxRecDepth 100000 in
set_option maxHeartbeats 4000000 in
theorem w_X9_refuse_L61 {l : Launch} {G : cx_T} {p : Program} {e : Env} {s : State} {m : MethodId} {args : Array Value} {below : List Frame} {meth : Method} {c : Code} {N n : Nat} {I : mm_T} {p1 : Int32} (X : cx_ok G p s m args meth c cX9_refuse 5 RX9 (some .int)) (hn : 144 ≤ n) {k28 : mm_T → Int32 → Int32 → Int32 → Int32 → Option (mm_T × Int32)} {z : mm_T × Int32} (K28 : ∀ {J : mm_T} {a1 : Int32} {a2 : Int32} {a3 : Int32} {a4 : Int32} {H : Heap} {locs : List Loc} {ls : Array Slot}, k28 J a1 a2 a3 a4 = some z → st_ok G n I J s H locs → lv_has ls 5 [(0, .ref (cx_b G + ly_loc 9 0)), (1, .int a1), (2, .int a2), (3, .int a3), (4, .int a4)] → W p l e ({ frames := 71, cells := 0, slots := 0, locals := 2654 }) s m args below meth c H locs 0 0 (MQ below (ct_qi G n I z.1 z.2) args s 0 0 (cx_A G)) (F0 m 28 ls [])) {J : mm_T} {a1 : Int32} {a2 : Int32} {a3 : Int32} {a4 : Int32} {H : Heap} {locs : List Loc} {ls : Array Slot} (h : f_X9_refuse_L61 N p1 k28 J a1 a2 a3 a4 = some z) (S : st_ok G n I J s H locs) (hl : lv_has ls 5 [(0, .ref (cx_b G + ly_loc 9 0)), (1, .int a1), (2, .int a2), (3, .int a3), (4, .int a4)]) : W p l e ({ frames := 71, cells := 0, slots := 0, locals := 2654 }) s m args below meth c H locs 0 0 (MQ below (ct_qi G n I z.1 z.2) args s 0 0 (cx_A G)) (F0 m 61 ls []) := by
  unfold f_X9_refuse_L61 at h
  obtain ⟨x_10, ex_10⟩ : ∃ y : Int32, y = (a4 + (1 : Int32)) := ⟨_, rfl⟩
  have h := pz_lt_e h ex_10
  refine lv_iinc (v := x_10) (lv' := [(4, .int x_10), (0, .ref (cx_b G + ly_loc 9 0)), (1, .int a1), (2, .int a2), (3, .int a3)]) X.1 X.2.1 dX9_refuse_61 hl (k := 4) rfl (by rw [ex_10]; rfl) (by decide) rfl (fun ls hl => ?_)
  refine lv_goto (tgt := 28) X.1 X.2.1 dX9_refuse_64 (by decide) ?_
  exact K28 h S (lv_sub hl [1, 2, 3, 4, 0] rfl)
def f_X9_refuse_L28 (N : Nat) (p1 : Int32) : Nat → mm_T → Int32 → Int32 → Int32 → Int32 → Option (mm_T × Int32)
  | 0, _, _, _, _, _ => none
  | cnt + 1, J, a1, a2, a3, a4 => if (J 9 0 14) ≤ a4 then (if a1 = 0 then (some (J, a3)) else (some (J, a2))) else (pz_bd (f_X9_desks N J ((1 : Int32) <<< (a4 &&& 31))) fun q_7 => if (q_7 9 0 34) ≤ a2 then (f_X9_refuse_L61 N p1 (f_X9_refuse_L28 N p1 cnt) q_7 a1 a2 a3 a4) else (pz_lt (q_7 9 0 34) fun x_9 => f_X9_refuse_L61 N p1 (f_X9_refuse_L28 N p1 cnt) q_7 a1 x_9 a4 a4))
set_option maxRecDepth 100000 in
set_option maxHeartbeats 4000000 in
theorem w_X9_refuse_L28 {l : Launch} {G : cx_T} {p : Program} {e : Env} {s : State} {m : MethodId} {args : Array Value} {below : List Frame} {meth : Method} {c : Code} {N n : Nat} {I : mm_T} {p1 : Int32} (X : cx_ok G p s m args meth c cX9_refuse 5 RX9 (some .int)) (hn : 144 ≤ n) {z : mm_T × Int32} : ∀ (cnt : Nat) {J : mm_T} {a1 : Int32} {a2 : Int32} {a3 : Int32} {a4 : Int32} {H : Heap} {locs : List Loc} {ls : Array Slot} , f_X9_refuse_L28 N p1 cnt J a1 a2 a3 a4 = some z → st_ok G n I J s H locs → lv_has ls 5 [(0, .ref (cx_b G + ly_loc 9 0)), (1, .int a1), (2, .int a2), (3, .int a3), (4, .int a4)] → W p l e ({ frames := 71, cells := 0, slots := 0, locals := 2654 }) s m args below meth c H locs 0 0 (MQ below (ct_qi G n I z.1 z.2) args s 0 0 (cx_A G)) (F0 m 28 ls []) := by
  intro cnt
  induction cnt with
  | zero =>
    intro J a1 a2 a3 a4 H locs ls h
    rw [f_X9_refuse_L28] at h
    cases h
  | succ cnt ih =>
    intro J a1 a2 a3 a4 H locs ls h S hl
    rw [f_X9_refuse_L28] at h
    refine lv_iload X.1 X.2.1 dX9_refuse_28 (lv_at hl 4 rfl) ?_
    refine lv_aload_n X.1 X.2.1 dX9_refuse_30 rfl (lv_at hl 0 rfl) ?_
    refine gf_X9_98 X S hn (by decide) dX9_refuse_31 ?_
    refine lv_icmp_ge (tgt := 67) X.1 X.2.1 dX9_refuse_34 (by decide) (fun c_5 => ?_) (fun c_5 => ?_)
    · have h := pz_t c_5 h
      refine lv_iload_n X.1 X.2.1 dX9_refuse_67 rfl (lv_at hl 1 rfl) ?_
      refine lv_if_ne (tgt := 75) X.1 X.2.1 dX9_refuse_68 (by decide) (fun c_6 => ?_) (fun c_6 => ?_)
      · have h := pz_f c_6 h
        refine lv_iload_n X.1 X.2.1 dX9_refuse_75 rfl (lv_at hl 2 rfl) ?_
        cases h
        exact r_iret X S dX9_refuse_76
      have h := pz_t c_6 h
      refine lv_iload_n X.1 X.2.1 dX9_refuse_71 rfl (lv_at hl 3 rfl) ?_
      refine lv_goto (tgt := 76) X.1 X.2.1 dX9_refuse_72 (by decide) ?_
      cases h
      exact r_iret X S dX9_refuse_76
    have h := pz_f c_5 h
    refine lv_aload_n X.1 X.2.1 dX9_refuse_37 rfl (lv_at hl 0 rfl) ?_
    refine lv_iconst (v := 1) X.1 X.2.1 dX9_refuse_38 (by decide) ?_
    refine lv_iload X.1 X.2.1 dX9_refuse_39 (lv_at hl 4 rfl) ?_
    refine lv_ishl X.1 X.2.1 dX9_refuse_41 ?_
    obtain ⟨q_7, eq_7, h⟩ := pz_bd_e h
    refine r_Vv X S (c_X9_desks hn eq_7) gd_X9_351 ⟨rfl, ny_X9_desks⟩ ⟨rfl, rfl⟩ ⟨Nat.le_of_ble_eq_true rfl, Nat.le_of_ble_eq_true rfl⟩ (r_recv X S (ly_ok_9 (by decide) hn) rfl rfl) rfl rfl hl.1 (Nat.le_of_ble_eq_true rfl) dX9_refuse_42 (fun H locs S => ?_)
    refine lv_aload_n X.1 X.2.1 dX9_refuse_45 rfl (lv_at hl 0 rfl) ?_
    refine gf_X9_255 X S hn (by decide) dX9_refuse_46 ?_
    refine lv_iload_n X.1 X.2.1 dX9_refuse_49 rfl (lv_at hl 2 rfl) ?_
    refine lv_icmp_le (tgt := 61) X.1 X.2.1 dX9_refuse_50 (by decide) (fun c_8 => ?_) (fun c_8 => ?_)
    · have h := pz_t c_8 h
      exact w_X9_refuse_L61 X hn ih h S (lv_sub hl [0, 1, 2, 3, 4] rfl)
    have h := pz_f c_8 h
    refine lv_aload_n X.1 X.2.1 dX9_refuse_53 rfl (lv_at hl 0 rfl) ?_
    refine gf_X9_255 X S hn (by decide) dX9_refuse_54 ?_
    refine lv_topi (fun x_9 ex_9 => ?_)
    have h := pz_lt_e h ex_9
    refine lv_istore_n (lv' := [(2, .int x_9), (0, .ref (cx_b G + ly_loc 9 0)), (1, .int a1), (3, .int a3), (4, .int a4)]) X.1 X.2.1 dX9_refuse_57 rfl hl (by decide) rfl (fun ls hl => ?_)
    refine lv_iload X.1 X.2.1 dX9_refuse_58 (lv_at hl 4 rfl) ?_
    refine lv_istore_n (lv' := [(3, .int a4), (2, .int x_9), (0, .ref (cx_b G + ly_loc 9 0)), (1, .int a1), (4, .int a4)]) X.1 X.2.1 dX9_refuse_60 rfl hl (by decide) rfl (fun ls hl => ?_)
    exact w_X9_refuse_L61 X hn ih h S (lv_sub hl [2, 3, 1, 0, 4] rfl)
def f_X9_refuse (N : Nat) (J : mm_T) (p1 : Int32) : Option (mm_T × Int32) := pz_bd (f_X9_in N (p1.toInt64) (0 : Int64) (1 : Int64)) fun q_1 => if q_1 = 0 then (some (J, (-2 : Int32))) else (pz_bd (f_X9_desks N J (0 : Int32)) fun q_3 => pz_lt (q_3 9 0 34) fun x_4 => f_X9_refuse_L28 N p1 N q_3 p1 x_4 (-1 : Int32) (0 : Int32))
set_option maxRecDepth 100000 in
set_option maxHeartbeats 4000000 in
theorem c_X9_refuse {l : Launch} {G : cx_T} {N n : Nat} {I J : mm_T} {p1 : Int32} (hn : 144 ≤ n) {z : mm_T × Int32} (h : f_X9_refuse N J p1 = some z) : ct_m l G n yX9_refuse cX9_refuse 5 (some .int) ({ frames := 71, cells := 0, slots := 0, locals := 2654 }) [.ref (cx_b G + ly_loc 9 0), .int p1] I J (ct_qi G n I z.1 z.2) := by
  refine ct_en (by decide) (Nat.le_of_ble_eq_true rfl) ?_
  intro p e s m args below meth c ls X S hl
  have X : cx_ok G p s m args meth c cX9_refuse 5 RX9 (some .int) := X
  have hl : lv_has ls 5 [(0, .ref (cx_b G + ly_loc 9 0)), (1, .int p1)] := hl
  unfold f_X9_refuse at h
  refine lv_iload_n X.1 X.2.1 dX9_refuse_0 rfl (lv_at hl 1 rfl) ?_
  refine lv_i2l X.1 X.2.1 dX9_refuse_1 rfl ?_
  refine lv_lconst (v := 0) X.1 X.2.1 dX9_refuse_2 (by decide) ?_
  refine lv_lconst (v := 1) X.1 X.2.1 dX9_refuse_3 (by decide) ?_
  obtain ⟨q_1, eq_1, h⟩ := pz_bd_e h
  refine r_Si X S (c_X9_in eq_1) gd_X9_94 ny_X9_in ⟨rfl, rfl⟩ ⟨Nat.le_of_ble_eq_true rfl, Nat.le_of_ble_eq_true rfl⟩ rfl rfl hl.1 (Nat.le_of_ble_eq_true rfl) dX9_refuse_4 (fun H locs S => ?_)
  refine lv_if_ne (tgt := 13) X.1 X.2.1 dX9_refuse_7 (by decide) (fun c_2 => ?_) (fun c_2 => ?_)
  · have h := pz_f c_2 h
    refine lv_aload_n X.1 X.2.1 dX9_refuse_13 rfl (lv_at hl 0 rfl) ?_
    refine lv_iconst (v := 0) X.1 X.2.1 dX9_refuse_14 (by decide) ?_
    obtain ⟨q_3, eq_3, h⟩ := pz_bd_e h
    refine r_Vv X S (c_X9_desks hn eq_3) gd_X9_351 ⟨rfl, ny_X9_desks⟩ ⟨rfl, rfl⟩ ⟨Nat.le_of_ble_eq_true rfl, Nat.le_of_ble_eq_true rfl⟩ (r_recv X S (ly_ok_9 (by decide) hn) rfl rfl) rfl rfl hl.1 (Nat.le_of_ble_eq_true rfl) dX9_refuse_15 (fun H locs S => ?_)
    refine lv_aload_n X.1 X.2.1 dX9_refuse_18 rfl (lv_at hl 0 rfl) ?_
    refine gf_X9_255 X S hn (by decide) dX9_refuse_19 ?_
    refine lv_topi (fun x_4 ex_4 => ?_)
    have h := pz_lt_e h ex_4
    refine lv_istore_n (lv' := [(2, .int x_4), (0, .ref (cx_b G + ly_loc 9 0)), (1, .int p1)]) X.1 X.2.1 dX9_refuse_22 rfl hl (by decide) rfl (fun ls hl => ?_)
    refine lv_iconst (v := -1) X.1 X.2.1 dX9_refuse_23 (by decide) ?_
    refine lv_istore_n (lv' := [(3, .int (-1 : Int32)), (2, .int x_4), (0, .ref (cx_b G + ly_loc 9 0)), (1, .int p1)]) X.1 X.2.1 dX9_refuse_24 rfl hl (by decide) rfl (fun ls hl => ?_)
    refine lv_iconst (v := 0) X.1 X.2.1 dX9_refuse_25 (by decide) ?_
    refine lv_istore (lv' := [(4, .int (0 : Int32)), (3, .int (-1 : Int32)), (2, .int x_4), (0, .ref (cx_b G + ly_loc 9 0)), (1, .int p1)]) X.1 X.2.1 dX9_refuse_26 hl (by decide) rfl (fun ls hl => ?_)
    exact w_X9_refuse_L28 X hn N h S (lv_sub hl [3, 4, 2, 1, 0] rfl)
  have h := pz_t c_2 h
  refine lv_bipush (v := -2) X.1 X.2.1 dX9_refuse_10 (by decide) ?_
  cases h
  exact r_iret X S dX9_refuse_12
def f_X9_coin (N : Nat) (J : mm_T) (p1 : Int32) : Option (mm_T × Int32) := pz_bd (f_X9_isSlip N J p1) fun q_1 => if q_1 = 0 then (some (J, (-100000 : Int32))) else (pz_bd (f_X9_desks N J (0 : Int32)) fun q_3 => pz_lt (q_3 9 0 34) fun x_4 => pz_bd (f_X9_begins N q_3) fun q_5 => pz_bd (f_X9_calls N q_5 p1) fun q_6 => pz_bd (f_X9_goesOn N q_6 (0 : Int32)) fun q_7 => some (q_7, (x_4 - (q_7 9 0 34))))
set_option maxRecDepth 100000 in
set_option maxHeartbeats 4000000 in
theorem c_X9_coin {l : Launch} {G : cx_T} {N n : Nat} {I J : mm_T} {p1 : Int32} (hn : 144 ≤ n) {z : mm_T × Int32} (h : f_X9_coin N J p1 = some z) : ct_m l G n yX9_coin cX9_coin 3 (some .int) ({ frames := 71, cells := 0, slots := 0, locals := 2654 }) [.ref (cx_b G + ly_loc 9 0), .int p1] I J (ct_qi G n I z.1 z.2) := by
  refine ct_en (by decide) (Nat.le_of_ble_eq_true rfl) ?_
  intro p e s m args below meth c ls X S hl
  have X : cx_ok G p s m args meth c cX9_coin 3 RX9 (some .int) := X
  have hl : lv_has ls 3 [(0, .ref (cx_b G + ly_loc 9 0)), (1, .int p1)] := hl
  unfold f_X9_coin at h
  refine lv_aload_n X.1 X.2.1 dX9_coin_0 rfl (lv_at hl 0 rfl) ?_
  refine lv_iload_n X.1 X.2.1 dX9_coin_1 rfl (lv_at hl 1 rfl) ?_
  obtain ⟨q_1, eq_1, h⟩ := pz_bd_e h
  refine r_Vi X S (c_X9_isSlip hn eq_1) gd_X9_119 ⟨rfl, ny_X9_isSlip⟩ ⟨rfl, rfl⟩ ⟨Nat.le_of_ble_eq_true rfl, Nat.le_of_ble_eq_true rfl⟩ (r_recv X S (ly_ok_9 (by decide) hn) rfl rfl) rfl rfl hl.1 (Nat.le_of_ble_eq_true rfl) dX9_coin_2 (fun H locs S => ?_)
  refine lv_if_ne (tgt := 11) X.1 X.2.1 dX9_coin_5 (by decide) (fun c_2 => ?_) (fun c_2 => ?_)
  · have h := pz_f c_2 h
    refine lv_aload_n X.1 X.2.1 dX9_coin_11 rfl (lv_at hl 0 rfl) ?_
    refine lv_iconst (v := 0) X.1 X.2.1 dX9_coin_12 (by decide) ?_
    obtain ⟨q_3, eq_3, h⟩ := pz_bd_e h
    refine r_Vv X S (c_X9_desks hn eq_3) gd_X9_351 ⟨rfl, ny_X9_desks⟩ ⟨rfl, rfl⟩ ⟨Nat.le_of_ble_eq_true rfl, Nat.le_of_ble_eq_true rfl⟩ (r_recv X S (ly_ok_9 (by decide) hn) rfl rfl) rfl rfl hl.1 (Nat.le_of_ble_eq_true rfl) dX9_coin_13 (fun H locs S => ?_)
    refine lv_aload_n X.1 X.2.1 dX9_coin_16 rfl (lv_at hl 0 rfl) ?_
    refine gf_X9_255 X S hn (by decide) dX9_coin_17 ?_
    refine lv_topi (fun x_4 ex_4 => ?_)
    have h := pz_lt_e h ex_4
    refine lv_istore_n (lv' := [(2, .int x_4), (0, .ref (cx_b G + ly_loc 9 0)), (1, .int p1)]) X.1 X.2.1 dX9_coin_20 rfl hl (by decide) rfl (fun ls hl => ?_)
    refine lv_aload_n X.1 X.2.1 dX9_coin_21 rfl (lv_at hl 1 rfl) ?_
    obtain ⟨q_5, eq_5, h⟩ := pz_bd_e h
    refine r_Vv X S (c_X9_begins hn eq_5) gd_X9_296 ⟨rfl, ny_X9_begins⟩ ⟨rfl, rfl⟩ ⟨Nat.le_of_ble_eq_true rfl, Nat.le_of_ble_eq_true rfl⟩ (r_recv X S (ly_ok_9 (by decide) hn) rfl rfl) rfl rfl hl.1 (Nat.le_of_ble_eq_true rfl) dX9_coin_22 (fun H locs S => ?_)
    refine lv_aload_n X.1 X.2.1 dX9_coin_25 rfl (lv_at hl 1 rfl) ?_
    refine lv_iload_n X.1 X.2.1 dX9_coin_26 rfl (lv_at hl 2 rfl) ?_
    obtain ⟨q_6, eq_6, h⟩ := pz_bd_e h
    refine r_Vv X S (c_X9_calls hn eq_6) gd_X9_302 ⟨rfl, ny_X9_calls⟩ ⟨rfl, rfl⟩ ⟨Nat.le_of_ble_eq_true rfl, Nat.le_of_ble_eq_true rfl⟩ (r_recv X S (ly_ok_9 (by decide) hn) rfl rfl) rfl rfl hl.1 (Nat.le_of_ble_eq_true rfl) dX9_coin_27 (fun H locs S => ?_)
    refine lv_aload_n X.1 X.2.1 dX9_coin_30 rfl (lv_at hl 1 rfl) ?_
    refine lv_iconst (v := 0) X.1 X.2.1 dX9_coin_31 (by decide) ?_
    obtain ⟨q_7, eq_7, h⟩ := pz_bd_e h
    refine r_Vv X S (c_X9_goesOn hn eq_7) gd_X9_348 ⟨rfl, ny_X9_goesOn⟩ ⟨rfl, rfl⟩ ⟨Nat.le_of_ble_eq_true rfl, Nat.le_of_ble_eq_true rfl⟩ (r_recv X S (ly_ok_9 (by decide) hn) rfl rfl) rfl rfl hl.1 (Nat.le_of_ble_eq_true rfl) dX9_coin_32 (fun H locs S => ?_)
    refine lv_iload_n X.1 X.2.1 dX9_coin_35 rfl (lv_at hl 0 rfl) ?_
    refine lv_aload_n X.1 X.2.1 dX9_coin_36 rfl (lv_at hl 1 rfl) ?_
    refine gf_X9_255 X S hn (by decide) dX9_coin_37 ?_
    refine lv_isub X.1 X.2.1 dX9_coin_40 ?_
    cases h
    exact r_iret X S dX9_coin_41
  have h := pz_t c_2 h
  refine lv_ldc (v := -100000) X.1 X.2.1 X.2.2.2.1 (X.2.2.2.2.1 _ kw_X9_122) dX9_coin_8 ?_
  cases h
  exact r_iret X S dX9_coin_10
def f_X9_harm (N : Nat) (J : mm_T) (p1 : Int32) : Option (mm_T × Int32) := pz_bd (f_X9_isSlip N J p1) fun q_1 => if q_1 = 0 then (some (J, (-100000 : Int32))) else (pz_bd (f_X9_desks N J (0 : Int32)) fun q_3 => pz_bd (f_X9_leftMany N q_3) fun q_4 => pz_bd (f_X9_desks N q_3 ((1 : Int32) <<< (p1 &&& 31))) fun q_5 => pz_bd (f_X9_leftMany N q_5) fun q_6 => some (q_5, (q_4 - q_6)))
set_option maxRecDepth 100000 in
set_option maxHeartbeats 4000000 in
theorem c_X9_harm {l : Launch} {G : cx_T} {N n : Nat} {I J : mm_T} {p1 : Int32} (hn : 144 ≤ n) {z : mm_T × Int32} (h : f_X9_harm N J p1 = some z) : ct_m l G n yX9_harm cX9_harm 3 (some .int) ({ frames := 71, cells := 0, slots := 0, locals := 2654 }) [.ref (cx_b G + ly_loc 9 0), .int p1] I J (ct_qi G n I z.1 z.2) := by
  refine ct_en (by decide) (Nat.le_of_ble_eq_true rfl) ?_
  intro p e s m args below meth c ls X S hl
  have X : cx_ok G p s m args meth c cX9_harm 3 RX9 (some .int) := X
  have hl : lv_has ls 3 [(0, .ref (cx_b G + ly_loc 9 0)), (1, .int p1)] := hl
  unfold f_X9_harm at h
  refine lv_aload_n X.1 X.2.1 dX9_harm_0 rfl (lv_at hl 0 rfl) ?_
  refine lv_iload_n X.1 X.2.1 dX9_harm_1 rfl (lv_at hl 1 rfl) ?_
  obtain ⟨q_1, eq_1, h⟩ := pz_bd_e h
  refine r_Vi X S (c_X9_isSlip hn eq_1) gd_X9_119 ⟨rfl, ny_X9_isSlip⟩ ⟨rfl, rfl⟩ ⟨Nat.le_of_ble_eq_true rfl, Nat.le_of_ble_eq_true rfl⟩ (r_recv X S (ly_ok_9 (by decide) hn) rfl rfl) rfl rfl hl.1 (Nat.le_of_ble_eq_true rfl) dX9_harm_2 (fun H locs S => ?_)
  refine lv_if_ne (tgt := 11) X.1 X.2.1 dX9_harm_5 (by decide) (fun c_2 => ?_) (fun c_2 => ?_)
  · have h := pz_f c_2 h
    refine lv_aload_n X.1 X.2.1 dX9_harm_11 rfl (lv_at hl 0 rfl) ?_
    refine lv_iconst (v := 0) X.1 X.2.1 dX9_harm_12 (by decide) ?_
    obtain ⟨q_3, eq_3, h⟩ := pz_bd_e h
    refine r_Vv X S (c_X9_desks hn eq_3) gd_X9_351 ⟨rfl, ny_X9_desks⟩ ⟨rfl, rfl⟩ ⟨Nat.le_of_ble_eq_true rfl, Nat.le_of_ble_eq_true rfl⟩ (r_recv X S (ly_ok_9 (by decide) hn) rfl rfl) rfl rfl hl.1 (Nat.le_of_ble_eq_true rfl) dX9_harm_13 (fun H locs S => ?_)
    refine lv_aload_n X.1 X.2.1 dX9_harm_16 rfl (lv_at hl 0 rfl) ?_
    obtain ⟨q_4, eq_4, h⟩ := pz_bd_e h
    refine r_Vi X S (c_X9_leftMany hn eq_4) gd_X9_293 ⟨rfl, ny_X9_leftMany⟩ ⟨rfl, rfl⟩ ⟨Nat.le_of_ble_eq_true rfl, Nat.le_of_ble_eq_true rfl⟩ (r_recv X S (ly_ok_9 (by decide) hn) rfl rfl) rfl rfl hl.1 (Nat.le_of_ble_eq_true rfl) dX9_harm_17 (fun H locs S => ?_)
    refine lv_istore_n (lv' := [(2, .int q_4), (0, .ref (cx_b G + ly_loc 9 0)), (1, .int p1)]) X.1 X.2.1 dX9_harm_20 rfl hl (by decide) rfl (fun ls hl => ?_)
    refine lv_aload_n X.1 X.2.1 dX9_harm_21 rfl (lv_at hl 1 rfl) ?_
    refine lv_iconst (v := 1) X.1 X.2.1 dX9_harm_22 (by decide) ?_
    refine lv_iload_n X.1 X.2.1 dX9_harm_23 rfl (lv_at hl 2 rfl) ?_
    refine lv_ishl X.1 X.2.1 dX9_harm_24 ?_
    obtain ⟨q_5, eq_5, h⟩ := pz_bd_e h
    refine r_Vv X S (c_X9_desks hn eq_5) gd_X9_351 ⟨rfl, ny_X9_desks⟩ ⟨rfl, rfl⟩ ⟨Nat.le_of_ble_eq_true rfl, Nat.le_of_ble_eq_true rfl⟩ (r_recv X S (ly_ok_9 (by decide) hn) rfl rfl) rfl rfl hl.1 (Nat.le_of_ble_eq_true rfl) dX9_harm_25 (fun H locs S => ?_)
    refine lv_iload_n X.1 X.2.1 dX9_harm_28 rfl (lv_at hl 0 rfl) ?_
    refine lv_aload_n X.1 X.2.1 dX9_harm_29 rfl (lv_at hl 1 rfl) ?_
    obtain ⟨q_6, eq_6, h⟩ := pz_bd_e h
    refine r_Vi X S (c_X9_leftMany hn eq_6) gd_X9_293 ⟨rfl, ny_X9_leftMany⟩ ⟨rfl, rfl⟩ ⟨Nat.le_of_ble_eq_true rfl, Nat.le_of_ble_eq_true rfl⟩ (r_recv X S (ly_ok_9 (by decide) hn) rfl rfl) rfl rfl hl.1 (Nat.le_of_ble_eq_true rfl) dX9_harm_30 (fun H locs S => ?_)
    refine lv_isub X.1 X.2.1 dX9_harm_33 ?_
    cases h
    exact r_iret X S dX9_harm_34
  have h := pz_t c_2 h
  refine lv_ldc (v := -100000) X.1 X.2.1 X.2.2.2.1 (X.2.2.2.2.1 _ kw_X9_122) dX9_harm_8 ?_
  cases h
  exact r_iret X S dX9_harm_10
def f_X9_wrongAt_L6 (N : Nat) (p1 : Int32) : Nat → mm_T → Int32 → Int32 → Option (mm_T × Int32)
  | 0, _, _, _ => none
  | cnt + 1, J, a1, a2 => pz_gd (ix_in a1 4) <| if (J 49 0 a1.toNatClampNeg) ≤ a2 then (some (J, (-1 : Int32))) else (pz_bd (f_X9_deskCalls N J (0 : Int32)) fun q_4 => pz_lt q_4.2 fun x_5 => if x_5 = (-1 : Int32) then (some (q_4.1, a2)) else (pz_gd (ix_in (((40 : Int32) * a1) + a2) 160) <| if x_5 = (q_4.1 50 0 (((40 : Int32) * a1) + a2).toNatClampNeg) then (pz_bd (f_X9_calls N q_4.1 x_5) fun q_9 => pz_lt (a2 + (1 : Int32)) fun x_10 => f_X9_wrongAt_L6 N p1 cnt q_9 a1 x_10) else (some (q_4.1, a2))))
set_option maxRecDepth 100000 in
set_option maxHeartbeats 4000000 in
theorem w_X9_wrongAt_L6 {l : Launch} {G : cx_T} {p : Program} {e : Env} {s : State} {m : MethodId} {args : Array Value} {below : List Frame} {meth : Method} {c : Code} {N n : Nat} {I : mm_T} {p1 : Int32} (X : cx_ok G p s m args meth c cX9_wrongAt 4 RX9 (some .int)) (hn : 144 ≤ n) {z : mm_T × Int32} : ∀ (cnt : Nat) {J : mm_T} {a1 : Int32} {a2 : Int32} {H : Heap} {locs : List Loc} {ls : Array Slot} , f_X9_wrongAt_L6 N p1 cnt J a1 a2 = some z → st_ok G n I J s H locs → lv_has ls 4 [(0, .ref (cx_b G + ly_loc 9 0)), (1, .int a1), (2, .int a2)] → W p l e ({ frames := 69, cells := 0, slots := 0, locals := 2611 }) s m args below meth c H locs 0 0 (MQ below (ct_qi G n I z.1 z.2) args s 0 0 (cx_A G)) (F0 m 6 ls []) := by
  intro cnt
  induction cnt with
  | zero =>
    intro J a1 a2 H locs ls h
    rw [f_X9_wrongAt_L6] at h
    cases h
  | succ cnt ih =>
    intro J a1 a2 H locs ls h S hl
    rw [f_X9_wrongAt_L6] at h
    refine lv_iload_n X.1 X.2.1 dX9_wrongAt_6 rfl (lv_at hl 2 rfl) ?_
    refine lv_aload_n X.1 X.2.1 dX9_wrongAt_7 rfl (lv_at hl 0 rfl) ?_
    refine gf_X9_78 X S hn (by decide) dX9_wrongAt_8 ?_
    refine lv_iload_n X.1 X.2.1 dX9_wrongAt_11 rfl (lv_at hl 1 rfl) ?_
    obtain ⟨g_2, h⟩ := pz_gd_e h
    refine al_49 X S hn (by decide) g_2 dX9_wrongAt_12 ?_
    refine lv_icmp_ge (tgt := 55) X.1 X.2.1 dX9_wrongAt_13 (by decide) (fun c_3 => ?_) (fun c_3 => ?_)
    · have h := pz_t c_3 h
      refine lv_iconst (v := -1) X.1 X.2.1 dX9_wrongAt_55 (by decide) ?_
      cases h
      exact r_iret X S dX9_wrongAt_56
    have h := pz_f c_3 h
    refine lv_aload_n X.1 X.2.1 dX9_wrongAt_16 rfl (lv_at hl 0 rfl) ?_
    refine lv_iconst (v := 0) X.1 X.2.1 dX9_wrongAt_17 (by decide) ?_
    obtain ⟨q_4, eq_4, h⟩ := pz_bd_e h
    refine r_Vi X S (c_X9_deskCalls hn eq_4) gd_X9_345 ⟨rfl, ny_X9_deskCalls⟩ ⟨rfl, rfl⟩ ⟨Nat.le_of_ble_eq_true rfl, Nat.le_of_ble_eq_true rfl⟩ (r_recv X S (ly_ok_9 (by decide) hn) rfl rfl) rfl rfl hl.1 (Nat.le_of_ble_eq_true rfl) dX9_wrongAt_18 (fun H locs S => ?_)
    refine lv_topi (fun x_5 ex_5 => ?_)
    have h := pz_lt_e h ex_5
    refine lv_istore_n (lv' := [(3, .int x_5), (0, .ref (cx_b G + ly_loc 9 0)), (1, .int a1), (2, .int a2)]) X.1 X.2.1 dX9_wrongAt_21 rfl hl (by decide) rfl (fun ls hl => ?_)
    refine lv_iload_n X.1 X.2.1 dX9_wrongAt_22 rfl (lv_at hl 0 rfl) ?_
    refine lv_iconst (v := -1) X.1 X.2.1 dX9_wrongAt_23 (by decide) ?_
    refine lv_icmp_eq (tgt := 42) X.1 X.2.1 dX9_wrongAt_24 (by decide) (fun c_6 => ?_) (fun c_6 => ?_)
    · have h := pz_t c_6 h
      refine lv_iload_n X.1 X.2.1 dX9_wrongAt_42 rfl (lv_at hl 3 rfl) ?_
      cases h
      exact r_iret X S dX9_wrongAt_43
    have h := pz_f c_6 h
    refine lv_iload_n X.1 X.2.1 dX9_wrongAt_27 rfl (lv_at hl 0 rfl) ?_
    refine lv_aload_n X.1 X.2.1 dX9_wrongAt_28 rfl (lv_at hl 1 rfl) ?_
    refine gf_X9_81 X S hn (by decide) dX9_wrongAt_29 ?_
    refine lv_bipush (v := 40) X.1 X.2.1 dX9_wrongAt_32 (by decide) ?_
    refine lv_iload_n X.1 X.2.1 dX9_wrongAt_34 rfl (lv_at hl 2 rfl) ?_
    refine lv_imul X.1 X.2.1 dX9_wrongAt_35 ?_
    refine lv_iload_n X.1 X.2.1 dX9_wrongAt_36 rfl (lv_at hl 3 rfl) ?_
    refine lv_iadd X.1 X.2.1 dX9_wrongAt_37 ?_
    obtain ⟨g_7, h⟩ := pz_gd_e h
    refine al_50 X S hn (by decide) g_7 dX9_wrongAt_38 ?_
    refine lv_icmp_eq (tgt := 44) X.1 X.2.1 dX9_wrongAt_39 (by decide) (fun c_8 => ?_) (fun c_8 => ?_)
    · have h := pz_t c_8 h
      refine lv_aload_n X.1 X.2.1 dX9_wrongAt_44 rfl (lv_at hl 1 rfl) ?_
      refine lv_iload_n X.1 X.2.1 dX9_wrongAt_45 rfl (lv_at hl 0 rfl) ?_
      obtain ⟨q_9, eq_9, h⟩ := pz_bd_e h
      refine r_Vv X S (c_X9_calls hn eq_9) gd_X9_302 ⟨rfl, ny_X9_calls⟩ ⟨rfl, rfl⟩ ⟨Nat.le_of_ble_eq_true rfl, Nat.le_of_ble_eq_true rfl⟩ (r_recv X S (ly_ok_9 (by decide) hn) rfl rfl) rfl rfl hl.1 (Nat.le_of_ble_eq_true rfl) dX9_wrongAt_46 (fun H locs S => ?_)
      obtain ⟨x_10, ex_10⟩ : ∃ y : Int32, y = (a2 + (1 : Int32)) := ⟨_, rfl⟩
      have h := pz_lt_e h ex_10
      refine lv_iinc (v := x_10) (lv' := [(2, .int x_10), (3, .int x_5), (0, .ref (cx_b G + ly_loc 9 0)), (1, .int a1)]) X.1 X.2.1 dX9_wrongAt_49 hl (k := 3) rfl (by rw [ex_10]; rfl) (by decide) rfl (fun ls hl => ?_)
      refine lv_goto (tgt := 6) X.1 X.2.1 dX9_wrongAt_52 (by decide) ?_
      exact ih h S (lv_sub hl [2, 3, 0] rfl)
    have h := pz_f c_8 h
    refine lv_iload_n X.1 X.2.1 dX9_wrongAt_42 rfl (lv_at hl 3 rfl) ?_
    cases h
    exact r_iret X S dX9_wrongAt_43
def f_X9_wrongAt (N : Nat) (J : mm_T) (p1 : Int32) : Option (mm_T × Int32) := pz_bd (f_X9_begins N J) fun q_1 => f_X9_wrongAt_L6 N p1 N q_1 p1 (0 : Int32)
set_option maxRecDepth 100000 in
set_option maxHeartbeats 4000000 in
theorem c_X9_wrongAt {l : Launch} {G : cx_T} {N n : Nat} {I J : mm_T} {p1 : Int32} (hn : 144 ≤ n) {z : mm_T × Int32} (h : f_X9_wrongAt N J p1 = some z) : ct_m l G n yX9_wrongAt cX9_wrongAt 4 (some .int) ({ frames := 69, cells := 0, slots := 0, locals := 2611 }) [.ref (cx_b G + ly_loc 9 0), .int p1] I J (ct_qi G n I z.1 z.2) := by
  refine ct_en (by decide) (Nat.le_of_ble_eq_true rfl) ?_
  intro p e s m args below meth c ls X S hl
  have X : cx_ok G p s m args meth c cX9_wrongAt 4 RX9 (some .int) := X
  have hl : lv_has ls 4 [(0, .ref (cx_b G + ly_loc 9 0)), (1, .int p1)] := hl
  unfold f_X9_wrongAt at h
  refine lv_aload_n X.1 X.2.1 dX9_wrongAt_0 rfl (lv_at hl 0 rfl) ?_
  obtain ⟨q_1, eq_1, h⟩ := pz_bd_e h
  refine r_Vv X S (c_X9_begins hn eq_1) gd_X9_296 ⟨rfl, ny_X9_begins⟩ ⟨rfl, rfl⟩ ⟨Nat.le_of_ble_eq_true rfl, Nat.le_of_ble_eq_true rfl⟩ (r_recv X S (ly_ok_9 (by decide) hn) rfl rfl) rfl rfl hl.1 (Nat.le_of_ble_eq_true rfl) dX9_wrongAt_1 (fun H locs S => ?_)
  refine lv_iconst (v := 0) X.1 X.2.1 dX9_wrongAt_4 (by decide) ?_
  refine lv_istore_n (lv' := [(2, .int (0 : Int32)), (0, .ref (cx_b G + ly_loc 9 0)), (1, .int p1)]) X.1 X.2.1 dX9_wrongAt_5 rfl hl (by decide) rfl (fun ls hl => ?_)
  exact w_X9_wrongAt_L6 X hn N h S (lv_sub hl [1, 2, 0] rfl)
def f_X9_isSheet (N : Nat) (p1 : Int32) : Option (Int32) := pz_bd (f_X9_in N (p1.toInt64) (0 : Int64) (3 : Int64)) fun q_1 => pz_gd (pz_z q_1) <| some q_1
set_option maxRecDepth 100000 in
set_option maxHeartbeats 4000000 in
theorem c_X9_isSheet {l : Launch} {G : cx_T} {N n : Nat} {I J : mm_T} {p1 : Int32} {z : Int32} (h : f_X9_isSheet N p1 = some z) : ct_m l G n yX9_isSheet cX9_isSheet 1 (some .boolean) ({ frames := 1, cells := 0, slots := 0, locals := 25 }) [.int p1] I J (ct_qi G n I J z) := by
  refine ct_en (by decide) (Nat.le_of_ble_eq_true rfl) ?_
  intro p e s m args below meth c ls X S hl
  have X : cx_ok G p s m args meth c cX9_isSheet 1 RX9 (some .boolean) := X
  have hl : lv_has ls 1 [(0, .int p1)] := hl
  have hn := S.2.2.2
  unfold f_X9_isSheet at h
  refine lv_iload_n X.1 X.2.1 dX9_isSheet_0 rfl (lv_at hl 0 rfl) ?_
  refine lv_i2l X.1 X.2.1 dX9_isSheet_1 rfl ?_
  refine lv_lconst (v := 0) X.1 X.2.1 dX9_isSheet_2 (by decide) ?_
  refine lv_ldc2 (v := 3) X.1 X.2.1 X.2.2.2.1 (X.2.2.2.2.1 _ kw_X9_340) dX9_isSheet_3 ?_
  obtain ⟨q_1, eq_1, h⟩ := pz_bd_e h
  refine r_Si X S (c_X9_in eq_1) gd_X9_94 ny_X9_in ⟨rfl, rfl⟩ ⟨Nat.le_of_ble_eq_true rfl, Nat.le_of_ble_eq_true rfl⟩ rfl rfl hl.1 (Nat.le_of_ble_eq_true rfl) dX9_isSheet_6 (fun H locs S => ?_)
  obtain ⟨g_2, h⟩ := pz_gd_e h
  cases h
  exact r_zret X S (pz_zn g_2) dX9_isSheet_9
def f_X9_tellBad (N : Nat) (J : mm_T) (p1 : Int32) : Option (Int32) := pz_bd (f_X9_isSheet N p1) fun q_1 => if q_1 = 0 then (some (-2 : Int32)) else (pz_gd (ix_in p1 4) <| if (J 47 0 p1.toNatClampNeg) = 0 then (some (-11 : Int32)) else (some (0 : Int32)))
set_option maxRecDepth 100000 in
set_option maxHeartbeats 4000000 in
theorem c_X9_tellBad {l : Launch} {G : cx_T} {N n : Nat} {I J : mm_T} {p1 : Int32} (hn : 144 ≤ n) {z : Int32} (h : f_X9_tellBad N J p1 = some z) : ct_m l G n yX9_tellBad cX9_tellBad 2 (some .int) ({ frames := 2, cells := 0, slots := 0, locals := 45 }) [.ref (cx_b G + ly_loc 9 0), .int p1] I J (ct_qi G n I J z) := by
  refine ct_en (by decide) (Nat.le_of_ble_eq_true rfl) ?_
  intro p e s m args below meth c ls X S hl
  have X : cx_ok G p s m args meth c cX9_tellBad 2 RX9 (some .int) := X
  have hl : lv_has ls 2 [(0, .ref (cx_b G + ly_loc 9 0)), (1, .int p1)] := hl
  unfold f_X9_tellBad at h
  refine lv_iload_n X.1 X.2.1 dX9_tellBad_0 rfl (lv_at hl 1 rfl) ?_
  obtain ⟨q_1, eq_1, h⟩ := pz_bd_e h
  refine r_Si X S (c_X9_isSheet eq_1) gd_X9_354 ny_X9_isSheet ⟨rfl, rfl⟩ ⟨Nat.le_of_ble_eq_true rfl, Nat.le_of_ble_eq_true rfl⟩ rfl rfl hl.1 (Nat.le_of_ble_eq_true rfl) dX9_tellBad_1 (fun H locs S => ?_)
  refine lv_if_ne (tgt := 10) X.1 X.2.1 dX9_tellBad_4 (by decide) (fun c_2 => ?_) (fun c_2 => ?_)
  · have h := pz_f c_2 h
    refine lv_aload_n X.1 X.2.1 dX9_tellBad_10 rfl (lv_at hl 0 rfl) ?_
    refine gf_X9_71 X S hn (by decide) dX9_tellBad_11 ?_
    refine lv_iload_n X.1 X.2.1 dX9_tellBad_14 rfl (lv_at hl 1 rfl) ?_
    obtain ⟨g_3, h⟩ := pz_gd_e h
    refine al_47 X S hn (by decide) g_3 dX9_tellBad_15 ?_
    refine lv_if_eq (tgt := 23) X.1 X.2.1 dX9_tellBad_16 (by decide) (fun c_4 => ?_) (fun c_4 => ?_)
    · have h := pz_t c_4 h
      refine lv_bipush (v := -11) X.1 X.2.1 dX9_tellBad_23 (by decide) ?_
      cases h
      exact r_iret X S dX9_tellBad_25
    have h := pz_f c_4 h
    refine lv_iconst (v := 0) X.1 X.2.1 dX9_tellBad_19 (by decide) ?_
    refine lv_goto (tgt := 25) X.1 X.2.1 dX9_tellBad_20 (by decide) ?_
    cases h
    exact r_iret X S dX9_tellBad_25
  have h := pz_t c_2 h
  refine lv_bipush (v := -2) X.1 X.2.1 dX9_tellBad_7 (by decide) ?_
  cases h
  exact r_iret X S dX9_tellBad_9
def f_X9_judge (N : Nat) (J : mm_T) (p1 : Int32) : Option (mm_T × Int32) := pz_bd (f_X9_tellBad N J p1) fun q_1 => if q_1 = 0 then (pz_bd (f_X9_wrongAt N J p1) fun q_3 => some (q_3.1, q_3.2)) else (some (J, q_1))
set_option maxRecDepth 100000 in
set_option maxHeartbeats 4000000 in
theorem c_X9_judge {l : Launch} {G : cx_T} {N n : Nat} {I J : mm_T} {p1 : Int32} (hn : 144 ≤ n) {z : mm_T × Int32} (h : f_X9_judge N J p1 = some z) : ct_m l G n yX9_judge cX9_judge 3 (some .int) ({ frames := 70, cells := 0, slots := 0, locals := 2634 }) [.ref (cx_b G + ly_loc 9 0), .int p1] I J (ct_qi G n I z.1 z.2) := by
  refine ct_en (by decide) (Nat.le_of_ble_eq_true rfl) ?_
  intro p e s m args below meth c ls X S hl
  have X : cx_ok G p s m args meth c cX9_judge 3 RX9 (some .int) := X
  have hl : lv_has ls 3 [(0, .ref (cx_b G + ly_loc 9 0)), (1, .int p1)] := hl
  unfold f_X9_judge at h
  refine lv_aload_n X.1 X.2.1 dX9_judge_0 rfl (lv_at hl 0 rfl) ?_
  refine lv_iload_n X.1 X.2.1 dX9_judge_1 rfl (lv_at hl 1 rfl) ?_
  obtain ⟨q_1, eq_1, h⟩ := pz_bd_e h
  refine r_Vi X S (c_X9_tellBad hn eq_1) gd_X9_357 ⟨rfl, ny_X9_tellBad⟩ ⟨rfl, rfl⟩ ⟨Nat.le_of_ble_eq_true rfl, Nat.le_of_ble_eq_true rfl⟩ (r_recv X S (ly_ok_9 (by decide) hn) rfl rfl) rfl rfl hl.1 (Nat.le_of_ble_eq_true rfl) dX9_judge_2 (fun H locs S => ?_)
  refine lv_istore_n (lv' := [(2, .int q_1), (0, .ref (cx_b G + ly_loc 9 0)), (1, .int p1)]) X.1 X.2.1 dX9_judge_5 rfl hl (by decide) rfl (fun ls hl => ?_)
  refine lv_iload_n X.1 X.2.1 dX9_judge_6 rfl (lv_at hl 0 rfl) ?_
  refine lv_if_eq (tgt := 14) X.1 X.2.1 dX9_judge_7 (by decide) (fun c_2 => ?_) (fun c_2 => ?_)
  · have h := pz_t c_2 h
    refine lv_aload_n X.1 X.2.1 dX9_judge_14 rfl (lv_at hl 1 rfl) ?_
    refine lv_iload_n X.1 X.2.1 dX9_judge_15 rfl (lv_at hl 2 rfl) ?_
    obtain ⟨q_3, eq_3, h⟩ := pz_bd_e h
    refine r_Vi X S (c_X9_wrongAt hn eq_3) gd_X9_360 ⟨rfl, ny_X9_wrongAt⟩ ⟨rfl, rfl⟩ ⟨Nat.le_of_ble_eq_true rfl, Nat.le_of_ble_eq_true rfl⟩ (r_recv X S (ly_ok_9 (by decide) hn) rfl rfl) rfl rfl hl.1 (Nat.le_of_ble_eq_true rfl) dX9_judge_16 (fun H locs S => ?_)
    cases h
    exact r_iret X S dX9_judge_19
  have h := pz_f c_2 h
  refine lv_iload_n X.1 X.2.1 dX9_judge_10 rfl (lv_at hl 0 rfl) ?_
  refine lv_goto (tgt := 19) X.1 X.2.1 dX9_judge_11 (by decide) ?_
  cases h
  exact r_iret X S dX9_judge_19
def f_X9_which_L52 (N : Nat) (p1 : Int32) (k25 : mm_T → Int32 → Int32 → Int32 → Option (mm_T × Int32)) (J : mm_T) (a1 : Int32) (a3 : Int32) (s0 : Int32) (s1 : Int32) : Option (mm_T × Int32) := pz_lt (s1 ||| (s0 <<< ((J 9 0 4) &&& 31))) fun x_9 => pz_lt (mm_up J 9 0 4 ((J 9 0 4) + (1 : Int32))) fun J_10 => k25 J_10 a1 a3 x_9
set_option maxRecDepth 100000 in
set_option maxHeartbeats 4000000 in
theorem w_X9_which_L52 {l : Launch} {G : cx_T} {p : Program} {e : Env} {s : State} {m : MethodId} {args : Array Value} {below : List Frame} {meth : Method} {c : Code} {N n : Nat} {I : mm_T} {p1 : Int32} (X : cx_ok G p s m args meth c cX9_which 5 RX9 (some .int)) (hn : 144 ≤ n) {k25 : mm_T → Int32 → Int32 → Int32 → Option (mm_T × Int32)} {z : mm_T × Int32} (K25 : ∀ {J : mm_T} {a1 : Int32} {a3 : Int32} {a4 : Int32} {H : Heap} {locs : List Loc} {ls : Array Slot}, k25 J a1 a3 a4 = some z → st_ok G n I J s H locs → lv_has ls 5 [(0, .ref (cx_b G + ly_loc 9 0)), (1, .int a1), (3, .int a3), (4, .int a4)] → W p l e ({ frames := 70, cells := 0, slots := 0, locals := 2634 }) s m args below meth c H locs 0 0 (MQ below (ct_qi G n I z.1 z.2) args s 0 0 (cx_A G)) (F0 m 25 ls [])) {J : mm_T} {a1 : Int32} {a3 : Int32} {s0 : Int32} {s1 : Int32} {H : Heap} {locs : List Loc} {ls : Array Slot} (h : f_X9_which_L52 N p1 k25 J a1 a3 s0 s1 = some z) (S : st_ok G n I J s H locs) (hl : lv_has ls 5 [(0, .ref (cx_b G + ly_loc 9 0)), (1, .int a1), (3, .int a3)]) : W p l e ({ frames := 70, cells := 0, slots := 0, locals := 2634 }) s m args below meth c H locs 0 0 (MQ below (ct_qi G n I z.1 z.2) args s 0 0 (cx_A G)) (F0 m 52 ls [.int s0, .int s1]) := by
  unfold f_X9_which_L52 at h
  refine lv_aload_n X.1 X.2.1 dX9_which_52 rfl (lv_at hl 0 rfl) ?_
  refine gf_X9_249 X S hn (by decide) dX9_which_53 ?_
  refine lv_ishl X.1 X.2.1 dX9_which_56 ?_
  refine lv_ior X.1 X.2.1 dX9_which_57 ?_
  refine lv_topi (fun x_9 ex_9 => ?_)
  have h := pz_lt_e h ex_9
  refine lv_istore (lv' := [(4, .int x_9), (0, .ref (cx_b G + ly_loc 9 0)), (1, .int a1), (3, .int a3)]) X.1 X.2.1 dX9_which_58 hl (by decide) rfl (fun ls hl => ?_)
  refine lv_aload_n X.1 X.2.1 dX9_which_60 rfl (lv_at hl 1 rfl) ?_
  refine lv_dup X.1 X.2.1 dX9_which_61 rfl ?_
  refine gf_X9_249 X S hn (by decide) dX9_which_62 ?_
  refine lv_iconst (v := 1) X.1 X.2.1 dX9_which_65 (by decide) ?_
  refine lv_iadd X.1 X.2.1 dX9_which_66 ?_
  refine pf_X9_249 X S hn (by decide) dX9_which_67 (fun J_10 H locs eJ_10 S => ?_)
  have h := pz_lt_e h eJ_10
  refine lv_goto (tgt := 25) X.1 X.2.1 dX9_which_70 (by decide) ?_
  exact K25 h S (lv_sub hl [1, 2, 3, 0] rfl)
def f_X9_which_L25 (N : Nat) (p1 : Int32) : Nat → mm_T → Int32 → Int32 → Int32 → Option (mm_T × Int32)
  | 0, _, _, _, _ => none
  | cnt + 1, J, a1, a3, a4 => if (J 9 0 3) ≤ (J 9 0 4) then (pz_lt (mm_up J 9 0 4 a3) fun J_6 => some (J_6, a4)) else (pz_bd (f_X9_wrongAt N J a1) fun q_7 => if q_7.2 = (-1 : Int32) then (f_X9_which_L52 N p1 (f_X9_which_L25 N p1 cnt) q_7.1 a1 a3 (1 : Int32) a4) else (f_X9_which_L52 N p1 (f_X9_which_L25 N p1 cnt) q_7.1 a1 a3 (0 : Int32) a4))
set_option maxRecDepth 100000 in
set_option maxHeartbeats 4000000 in
theorem w_X9_which_L25 {l : Launch} {G : cx_T} {p : Program} {e : Env} {s : State} {m : MethodId} {args : Array Value} {below : List Frame} {meth : Method} {c : Code} {N n : Nat} {I : mm_T} {p1 : Int32} (X : cx_ok G p s m args meth c cX9_which 5 RX9 (some .int)) (hn : 144 ≤ n) {z : mm_T × Int32} : ∀ (cnt : Nat) {J : mm_T} {a1 : Int32} {a3 : Int32} {a4 : Int32} {H : Heap} {locs : List Loc} {ls : Array Slot} , f_X9_which_L25 N p1 cnt J a1 a3 a4 = some z → st_ok G n I J s H locs → lv_has ls 5 [(0, .ref (cx_b G + ly_loc 9 0)), (1, .int a1), (3, .int a3), (4, .int a4)] → W p l e ({ frames := 70, cells := 0, slots := 0, locals := 2634 }) s m args below meth c H locs 0 0 (MQ below (ct_qi G n I z.1 z.2) args s 0 0 (cx_A G)) (F0 m 25 ls []) := by
  intro cnt
  induction cnt with
  | zero =>
    intro J a1 a3 a4 H locs ls h
    rw [f_X9_which_L25] at h
    cases h
  | succ cnt ih =>
    intro J a1 a3 a4 H locs ls h S hl
    rw [f_X9_which_L25] at h
    refine lv_aload_n X.1 X.2.1 dX9_which_25 rfl (lv_at hl 0 rfl) ?_
    refine gf_X9_249 X S hn (by decide) dX9_which_26 ?_
    refine lv_aload_n X.1 X.2.1 dX9_which_29 rfl (lv_at hl 0 rfl) ?_
    refine gf_X9_88 X S hn (by decide) dX9_which_30 ?_
    refine lv_icmp_ge (tgt := 73) X.1 X.2.1 dX9_which_33 (by decide) (fun c_5 => ?_) (fun c_5 => ?_)
    · have h := pz_t c_5 h
      refine lv_aload_n X.1 X.2.1 dX9_which_73 rfl (lv_at hl 0 rfl) ?_
      refine lv_iload_n X.1 X.2.1 dX9_which_74 rfl (lv_at hl 2 rfl) ?_
      refine pf_X9_249 X S hn (by decide) dX9_which_75 (fun J_6 H locs eJ_6 S => ?_)
      have h := pz_lt_e h eJ_6
      refine lv_iload X.1 X.2.1 dX9_which_78 (lv_at hl 3 rfl) ?_
      cases h
      exact r_iret X S dX9_which_80
    have h := pz_f c_5 h
    refine lv_iload X.1 X.2.1 dX9_which_36 (lv_at hl 3 rfl) ?_
    refine lv_aload_n X.1 X.2.1 dX9_which_38 rfl (lv_at hl 0 rfl) ?_
    refine lv_iload_n X.1 X.2.1 dX9_which_39 rfl (lv_at hl 1 rfl) ?_
    obtain ⟨q_7, eq_7, h⟩ := pz_bd_e h
    refine r_Vi X S (c_X9_wrongAt hn eq_7) gd_X9_360 ⟨rfl, ny_X9_wrongAt⟩ ⟨rfl, rfl⟩ ⟨Nat.le_of_ble_eq_true rfl, Nat.le_of_ble_eq_true rfl⟩ (r_recv X S (ly_ok_9 (by decide) hn) rfl rfl) rfl rfl hl.1 (Nat.le_of_ble_eq_true rfl) dX9_which_40 (fun H locs S => ?_)
    refine lv_iconst (v := -1) X.1 X.2.1 dX9_which_43 (by decide) ?_
    refine lv_icmp_ne (tgt := 51) X.1 X.2.1 dX9_which_44 (by decide) (fun c_8 => ?_) (fun c_8 => ?_)
    · have h := pz_f c_8 h
      refine lv_iconst (v := 0) X.1 X.2.1 dX9_which_51 (by decide) ?_
      exact w_X9_which_L52 X hn ih h S (lv_sub hl [0, 1, 2] rfl)
    have h := pz_t c_8 h
    refine lv_iconst (v := 1) X.1 X.2.1 dX9_which_47 (by decide) ?_
    refine lv_goto (tgt := 52) X.1 X.2.1 dX9_which_48 (by decide) ?_
    exact w_X9_which_L52 X hn ih h S (lv_sub hl [0, 1, 2] rfl)
def f_X9_which (N : Nat) (J : mm_T) (p1 : Int32) : Option (mm_T × Int32) := pz_bd (f_X9_tellBad N J p1) fun q_1 => if q_1 = 0 then (pz_lt (J 9 0 4) fun x_3 => pz_lt (mm_up J 9 0 4 (0 : Int32)) fun J_4 => f_X9_which_L25 N p1 N J_4 p1 x_3 (0 : Int32)) else (some (J, q_1))
set_option maxRecDepth 100000 in
set_option maxHeartbeats 4000000 in
theorem c_X9_which {l : Launch} {G : cx_T} {N n : Nat} {I J : mm_T} {p1 : Int32} (hn : 144 ≤ n) {z : mm_T × Int32} (h : f_X9_which N J p1 = some z) : ct_m l G n yX9_which cX9_which 5 (some .int) ({ frames := 70, cells := 0, slots := 0, locals := 2634 }) [.ref (cx_b G + ly_loc 9 0), .int p1] I J (ct_qi G n I z.1 z.2) := by
  refine ct_en (by decide) (Nat.le_of_ble_eq_true rfl) ?_
  intro p e s m args below meth c ls X S hl
  have X : cx_ok G p s m args meth c cX9_which 5 RX9 (some .int) := X
  have hl : lv_has ls 5 [(0, .ref (cx_b G + ly_loc 9 0)), (1, .int p1)] := hl
  unfold f_X9_which at h
  refine lv_aload_n X.1 X.2.1 dX9_which_0 rfl (lv_at hl 0 rfl) ?_
  refine lv_iload_n X.1 X.2.1 dX9_which_1 rfl (lv_at hl 1 rfl) ?_
  obtain ⟨q_1, eq_1, h⟩ := pz_bd_e h
  refine r_Vi X S (c_X9_tellBad hn eq_1) gd_X9_357 ⟨rfl, ny_X9_tellBad⟩ ⟨rfl, rfl⟩ ⟨Nat.le_of_ble_eq_true rfl, Nat.le_of_ble_eq_true rfl⟩ (r_recv X S (ly_ok_9 (by decide) hn) rfl rfl) rfl rfl hl.1 (Nat.le_of_ble_eq_true rfl) dX9_which_2 (fun H locs S => ?_)
  refine lv_istore_n (lv' := [(2, .int q_1), (0, .ref (cx_b G + ly_loc 9 0)), (1, .int p1)]) X.1 X.2.1 dX9_which_5 rfl hl (by decide) rfl (fun ls hl => ?_)
  refine lv_iload_n X.1 X.2.1 dX9_which_6 rfl (lv_at hl 0 rfl) ?_
  refine lv_if_eq (tgt := 12) X.1 X.2.1 dX9_which_7 (by decide) (fun c_2 => ?_) (fun c_2 => ?_)
  · have h := pz_t c_2 h
    refine lv_aload_n X.1 X.2.1 dX9_which_12 rfl (lv_at hl 1 rfl) ?_
    refine gf_X9_249 X S hn (by decide) dX9_which_13 ?_
    refine lv_topi (fun x_3 ex_3 => ?_)
    have h := pz_lt_e h ex_3
    refine lv_istore_n (lv' := [(3, .int x_3), (2, .int q_1), (0, .ref (cx_b G + ly_loc 9 0)), (1, .int p1)]) X.1 X.2.1 dX9_which_16 rfl hl (by decide) rfl (fun ls hl => ?_)
    refine lv_iconst (v := 0) X.1 X.2.1 dX9_which_17 (by decide) ?_
    refine lv_istore (lv' := [(4, .int (0 : Int32)), (3, .int x_3), (2, .int q_1), (0, .ref (cx_b G + ly_loc 9 0)), (1, .int p1)]) X.1 X.2.1 dX9_which_18 hl (by decide) rfl (fun ls hl => ?_)
    refine lv_aload_n X.1 X.2.1 dX9_which_20 rfl (lv_at hl 3 rfl) ?_
    refine lv_iconst (v := 0) X.1 X.2.1 dX9_which_21 (by decide) ?_
    refine pf_X9_249 X S hn (by decide) dX9_which_22 (fun J_4 H locs eJ_4 S => ?_)
    have h := pz_lt_e h eJ_4
    exact w_X9_which_L25 X hn N h S (lv_sub hl [3, 4, 1, 0] rfl)
  have h := pz_f c_2 h
  refine lv_iload_n X.1 X.2.1 dX9_which_10 rfl (lv_at hl 0 rfl) ?_
  cases h
  exact r_iret X S dX9_which_11
def f_X9_behind_L11 (N : Nat) : Nat → mm_T → Int32 → Int32 → Int32 → Option (mm_T × Int32)
  | 0, _, _, _, _ => none
  | cnt + 1, J, a1, a2, a3 => if (J 9 0 14) ≤ a3 then (some (J, (a1 &&& (a2 ^^^ (-1 : Int32))))) else (pz_gd (ix_in a3 7) <| pz_lt (a1 ||| ((1 : Int32) <<< ((J 38 0 a3.toNatClampNeg) &&& 31))) fun x_4 => pz_gd (ix_in a3 7) <| pz_lt (a2 ||| ((((J 9 0 40) >>> (a3 &&& 31)) &&& (1 : Int32)) <<< ((J 38 0 a3.toNatClampNeg) &&& 31))) fun x_6 => pz_lt (a3 + (1 : Int32)) fun x_7 => f_X9_behind_L11 N cnt J x_4 x_6 x_7)
set_option maxRecDepth 100000 in
set_option maxHeartbeats 4000000 in
theorem w_X9_behind_L11 {l : Launch} {G : cx_T} {p : Program} {e : Env} {s : State} {m : MethodId} {args : Array Value} {below : List Frame} {meth : Method} {c : Code} {N n : Nat} {I : mm_T} (X : cx_ok G p s m args meth c cX9_behind 4 RX9 (some .int)) (hn : 144 ≤ n) {z : mm_T × Int32} : ∀ (cnt : Nat) {J : mm_T} {a1 : Int32} {a2 : Int32} {a3 : Int32} {H : Heap} {locs : List Loc} {ls : Array Slot} , f_X9_behind_L11 N cnt J a1 a2 a3 = some z → st_ok G n I J s H locs → lv_has ls 4 [(0, .ref (cx_b G + ly_loc 9 0)), (1, .int a1), (2, .int a2), (3, .int a3)] → W p l e ({ frames := 71, cells := 0, slots := 0, locals := 2654 }) s m args below meth c H locs 0 0 (MQ below (ct_qi G n I z.1 z.2) args s 0 0 (cx_A G)) (F0 m 11 ls []) := by
  intro cnt
  induction cnt with
  | zero =>
    intro J a1 a2 a3 H locs ls h
    rw [f_X9_behind_L11] at h
    cases h
  | succ cnt ih =>
    intro J a1 a2 a3 H locs ls h S hl
    rw [f_X9_behind_L11] at h
    refine lv_iload_n X.1 X.2.1 dX9_behind_11 rfl (lv_at hl 3 rfl) ?_
    refine lv_aload_n X.1 X.2.1 dX9_behind_12 rfl (lv_at hl 0 rfl) ?_
    refine gf_X9_98 X S hn (by decide) dX9_behind_13 ?_
    refine lv_icmp_ge (tgt := 54) X.1 X.2.1 dX9_behind_16 (by decide) (fun c_2 => ?_) (fun c_2 => ?_)
    · have h := pz_t c_2 h
      refine lv_iload_n X.1 X.2.1 dX9_behind_54 rfl (lv_at hl 1 rfl) ?_
      refine lv_iload_n X.1 X.2.1 dX9_behind_55 rfl (lv_at hl 2 rfl) ?_
      refine lv_iconst (v := -1) X.1 X.2.1 dX9_behind_56 (by decide) ?_
      refine lv_ixor X.1 X.2.1 dX9_behind_57 ?_
      refine lv_iand X.1 X.2.1 dX9_behind_58 ?_
      cases h
      exact r_iret X S dX9_behind_59
    have h := pz_f c_2 h
    refine lv_iload_n X.1 X.2.1 dX9_behind_19 rfl (lv_at hl 1 rfl) ?_
    refine lv_iconst (v := 1) X.1 X.2.1 dX9_behind_20 (by decide) ?_
    refine lv_aload_n X.1 X.2.1 dX9_behind_21 rfl (lv_at hl 0 rfl) ?_
    refine gf_X9_38 X S hn (by decide) dX9_behind_22 ?_
    refine lv_iload_n X.1 X.2.1 dX9_behind_25 rfl (lv_at hl 3 rfl) ?_
    obtain ⟨g_3, h⟩ := pz_gd_e h
    refine al_38 X S hn (by decide) g_3 dX9_behind_26 ?_
    refine lv_ishl X.1 X.2.1 dX9_behind_27 ?_
    refine lv_ior X.1 X.2.1 dX9_behind_28 ?_
    refine lv_topi (fun x_4 ex_4 => ?_)
    have h := pz_lt_e h ex_4
    refine lv_istore_n (lv' := [(1, .int x_4), (0, .ref (cx_b G + ly_loc 9 0)), (2, .int a2), (3, .int a3)]) X.1 X.2.1 dX9_behind_29 rfl hl (by decide) rfl (fun ls hl => ?_)
    refine lv_iload_n X.1 X.2.1 dX9_behind_30 rfl (lv_at hl 2 rfl) ?_
    refine lv_aload_n X.1 X.2.1 dX9_behind_31 rfl (lv_at hl 1 rfl) ?_
    refine gf_X9_274 X S hn (by decide) dX9_behind_32 ?_
    refine lv_iload_n X.1 X.2.1 dX9_behind_35 rfl (lv_at hl 3 rfl) ?_
    refine lv_ishr X.1 X.2.1 dX9_behind_36 ?_
    refine lv_iconst (v := 1) X.1 X.2.1 dX9_behind_37 (by decide) ?_
    refine lv_iand X.1 X.2.1 dX9_behind_38 ?_
    refine lv_aload_n X.1 X.2.1 dX9_behind_39 rfl (lv_at hl 1 rfl) ?_
    refine gf_X9_38 X S hn (by decide) dX9_behind_40 ?_
    refine lv_iload_n X.1 X.2.1 dX9_behind_43 rfl (lv_at hl 3 rfl) ?_
    obtain ⟨g_5, h⟩ := pz_gd_e h
    refine al_38 X S hn (by decide) g_5 dX9_behind_44 ?_
    refine lv_ishl X.1 X.2.1 dX9_behind_45 ?_
    refine lv_ior X.1 X.2.1 dX9_behind_46 ?_
    refine lv_topi (fun x_6 ex_6 => ?_)
    have h := pz_lt_e h ex_6
    refine lv_istore_n (lv' := [(2, .int x_6), (1, .int x_4), (0, .ref (cx_b G + ly_loc 9 0)), (3, .int a3)]) X.1 X.2.1 dX9_behind_47 rfl hl (by decide) rfl (fun ls hl => ?_)
    obtain ⟨x_7, ex_7⟩ : ∃ y : Int32, y = (a3 + (1 : Int32)) := ⟨_, rfl⟩
    have h := pz_lt_e h ex_7
    refine lv_iinc (v := x_7) (lv' := [(3, .int x_7), (2, .int x_6), (1, .int x_4), (0, .ref (cx_b G + ly_loc 9 0))]) X.1 X.2.1 dX9_behind_48 hl (k := 3) rfl (by rw [ex_7]; rfl) (by decide) rfl (fun ls hl => ?_)
    refine lv_goto (tgt := 11) X.1 X.2.1 dX9_behind_51 (by decide) ?_
    exact ih h S (lv_sub hl [3, 2, 1, 0] rfl)
def f_X9_behind (N : Nat) (J : mm_T) : Option (mm_T × Int32) := pz_bd (f_X9_desks N J (0 : Int32)) fun q_1 => f_X9_behind_L11 N N q_1 (0 : Int32) (0 : Int32) (0 : Int32)
set_option maxRecDepth 100000 in
set_option maxHeartbeats 4000000 in
theorem c_X9_behind {l : Launch} {G : cx_T} {N n : Nat} {I J : mm_T} (hn : 144 ≤ n) {z : mm_T × Int32} (h : f_X9_behind N J = some z) : ct_m l G n yX9_behind cX9_behind 4 (some .int) ({ frames := 71, cells := 0, slots := 0, locals := 2654 }) [.ref (cx_b G + ly_loc 9 0)] I J (ct_qi G n I z.1 z.2) := by
  refine ct_en (by decide) (Nat.le_of_ble_eq_true rfl) ?_
  intro p e s m args below meth c ls X S hl
  have X : cx_ok G p s m args meth c cX9_behind 4 RX9 (some .int) := X
  have hl : lv_has ls 4 [(0, .ref (cx_b G + ly_loc 9 0))] := hl
  unfold f_X9_behind at h
  refine lv_aload_n X.1 X.2.1 dX9_behind_0 rfl (lv_at hl 0 rfl) ?_
  refine lv_iconst (v := 0) X.1 X.2.1 dX9_behind_1 (by decide) ?_
  obtain ⟨q_1, eq_1, h⟩ := pz_bd_e h
  refine r_Vv X S (c_X9_desks hn eq_1) gd_X9_351 ⟨rfl, ny_X9_desks⟩ ⟨rfl, rfl⟩ ⟨Nat.le_of_ble_eq_true rfl, Nat.le_of_ble_eq_true rfl⟩ (r_recv X S (ly_ok_9 (by decide) hn) rfl rfl) rfl rfl hl.1 (Nat.le_of_ble_eq_true rfl) dX9_behind_2 (fun H locs S => ?_)
  refine lv_iconst (v := 0) X.1 X.2.1 dX9_behind_5 (by decide) ?_
  refine lv_istore_n (lv' := [(1, .int (0 : Int32)), (0, .ref (cx_b G + ly_loc 9 0))]) X.1 X.2.1 dX9_behind_6 rfl hl (by decide) rfl (fun ls hl => ?_)
  refine lv_iconst (v := 0) X.1 X.2.1 dX9_behind_7 (by decide) ?_
  refine lv_istore_n (lv' := [(2, .int (0 : Int32)), (1, .int (0 : Int32)), (0, .ref (cx_b G + ly_loc 9 0))]) X.1 X.2.1 dX9_behind_8 rfl hl (by decide) rfl (fun ls hl => ?_)
  refine lv_iconst (v := 0) X.1 X.2.1 dX9_behind_9 (by decide) ?_
  refine lv_istore_n (lv' := [(3, .int (0 : Int32)), (2, .int (0 : Int32)), (1, .int (0 : Int32)), (0, .ref (cx_b G + ly_loc 9 0))]) X.1 X.2.1 dX9_behind_10 rfl hl (by decide) rfl (fun ls hl => ?_)
  exact w_X9_behind_L11 X hn N h S (lv_sub hl [3, 2, 1, 0] rfl)
def f_X9_draws_L74 (N : Nat) (p1 : Int32) (k11 : mm_T → Int32 → Int32 → Option (mm_T)) (k36 : mm_T → Int32 → Int32 → Int32 → Int32 → Option (mm_T)) (J : mm_T) (a2 : Int32) (a3 : Int32) (a5 : Int32) (s0 : Int32) (s1 : Int32) : Option (mm_T) := pz_lt (s1 - s0) fun x_12 => pz_lt (a5 + (1 : Int32)) fun x_13 => k36 J a2 a3 x_12 x_13
set_option maxRecDepth 100000 in
set_option maxHeartbeats 4000000 in
theorem w_X9_draws_L74 {l : Launch} {G : cx_T} {p : Program} {e : Env} {s : State} {m : MethodId} {args : Array Value} {below : List Frame} {meth : Method} {c : Code} {N n : Nat} {I : mm_T} {p1 : Int32} (X : cx_ok G p s m args meth c cX9_draws 6 RX9 none) (hn : 144 ≤ n) {k11 : mm_T → Int32 → Int32 → Option (mm_T)} {k36 : mm_T → Int32 → Int32 → Int32 → Int32 → Option (mm_T)} {z : mm_T} (K11 : ∀ {J : mm_T} {a2 : Int32} {a3 : Int32} {H : Heap} {locs : List Loc} {ls : Array Slot}, k11 J a2 a3 = some z → st_ok G n I J s H locs → lv_has ls 6 [(0, .ref (cx_b G + ly_loc 9 0)), (2, .int a2), (3, .int a3)] → W p l e ({ frames := 69, cells := 0, slots := 0, locals := 2610 }) s m args below meth c H locs 0 0 (MQ below (ct_qv G n I z) args s 0 0 (cx_A G)) (F0 m 11 ls [])) (K36 : ∀ {J : mm_T} {a2 : Int32} {a3 : Int32} {a4 : Int32} {a5 : Int32} {H : Heap} {locs : List Loc} {ls : Array Slot}, k36 J a2 a3 a4 a5 = some z → st_ok G n I J s H locs → lv_has ls 6 [(0, .ref (cx_b G + ly_loc 9 0)), (2, .int a2), (3, .int a3), (4, .int a4), (5, .int a5)] → W p l e ({ frames := 69, cells := 0, slots := 0, locals := 2610 }) s m args below meth c H locs 0 0 (MQ below (ct_qv G n I z) args s 0 0 (cx_A G)) (F0 m 36 ls [])) {J : mm_T} {a2 : Int32} {a3 : Int32} {a5 : Int32} {s0 : Int32} {s1 : Int32} {H : Heap} {locs : List Loc} {ls : Array Slot} (h : f_X9_draws_L74 N p1 k11 k36 J a2 a3 a5 s0 s1 = some z) (S : st_ok G n I J s H locs) (hl : lv_has ls 6 [(0, .ref (cx_b G + ly_loc 9 0)), (2, .int a2), (3, .int a3), (5, .int a5)]) : W p l e ({ frames := 69, cells := 0, slots := 0, locals := 2610 }) s m args below meth c H locs 0 0 (MQ below (ct_qv G n I z) args s 0 0 (cx_A G)) (F0 m 74 ls [.int s0, .int s1]) := by
  unfold f_X9_draws_L74 at h
  refine lv_isub X.1 X.2.1 dX9_draws_74 ?_
  refine lv_topi (fun x_12 ex_12 => ?_)
  have h := pz_lt_e h ex_12
  refine lv_istore (lv' := [(4, .int x_12), (0, .ref (cx_b G + ly_loc 9 0)), (2, .int a2), (3, .int a3), (5, .int a5)]) X.1 X.2.1 dX9_draws_75 hl (by decide) rfl (fun ls hl => ?_)
  obtain ⟨x_13, ex_13⟩ : ∃ y : Int32, y = (a5 + (1 : Int32)) := ⟨_, rfl⟩
  have h := pz_lt_e h ex_13
  refine lv_iinc (v := x_13) (lv' := [(5, .int x_13), (4, .int x_12), (0, .ref (cx_b G + ly_loc 9 0)), (2, .int a2), (3, .int a3)]) X.1 X.2.1 dX9_draws_77 hl (k := 4) rfl (by rw [ex_13]; rfl) (by decide) rfl (fun ls hl => ?_)
  refine lv_goto (tgt := 36) X.1 X.2.1 dX9_draws_80 (by decide) ?_
  exact K36 h S (lv_sub hl [2, 3, 4, 1, 0] rfl)
def f_X9_draws_L54 (N : Nat) (p1 : Int32) (k11 : mm_T → Int32 → Int32 → Option (mm_T)) (k36 : mm_T → Int32 → Int32 → Int32 → Int32 → Option (mm_T)) (J : mm_T) (a2 : Int32) (a3 : Int32) (a4 : Int32) (a5 : Int32) : Option (mm_T) := if (((J 9 0 39) >>> (a5 &&& 31)) &&& (1 : Int32)) = (1 : Int32) then (f_X9_draws_L74 N p1 k11 k36 J a2 a3 a5 (0 : Int32) a4) else (f_X9_draws_L74 N p1 k11 k36 J a2 a3 a5 (1 : Int32) a4)
set_option maxRecDepth 100000 in
set_option maxHeartbeats 4000000 in
theorem w_X9_draws_L54 {l : Launch} {G : cx_T} {p : Program} {e : Env} {s : State} {m : MethodId} {args : Array Value} {below : List Frame} {meth : Method} {c : Code} {N n : Nat} {I : mm_T} {p1 : Int32} (X : cx_ok G p s m args meth c cX9_draws 6 RX9 none) (hn : 144 ≤ n) {k11 : mm_T → Int32 → Int32 → Option (mm_T)} {k36 : mm_T → Int32 → Int32 → Int32 → Int32 → Option (mm_T)} {z : mm_T} (K11 : ∀ {J : mm_T} {a2 : Int32} {a3 : Int32} {H : Heap} {locs : List Loc} {ls : Array Slot}, k11 J a2 a3 = some z → st_ok G n I J s H locs → lv_has ls 6 [(0, .ref (cx_b G + ly_loc 9 0)), (2, .int a2), (3, .int a3)] → W p l e ({ frames := 69, cells := 0, slots := 0, locals := 2610 }) s m args below meth c H locs 0 0 (MQ below (ct_qv G n I z) args s 0 0 (cx_A G)) (F0 m 11 ls [])) (K36 : ∀ {J : mm_T} {a2 : Int32} {a3 : Int32} {a4 : Int32} {a5 : Int32} {H : Heap} {locs : List Loc} {ls : Array Slot}, k36 J a2 a3 a4 a5 = some z → st_ok G n I J s H locs → lv_has ls 6 [(0, .ref (cx_b G + ly_loc 9 0)), (2, .int a2), (3, .int a3), (4, .int a4), (5, .int a5)] → W p l e ({ frames := 69, cells := 0, slots := 0, locals := 2610 }) s m args below meth c H locs 0 0 (MQ below (ct_qv G n I z) args s 0 0 (cx_A G)) (F0 m 36 ls [])) {J : mm_T} {a2 : Int32} {a3 : Int32} {a4 : Int32} {a5 : Int32} {H : Heap} {locs : List Loc} {ls : Array Slot} (h : f_X9_draws_L54 N p1 k11 k36 J a2 a3 a4 a5 = some z) (S : st_ok G n I J s H locs) (hl : lv_has ls 6 [(0, .ref (cx_b G + ly_loc 9 0)), (2, .int a2), (3, .int a3), (4, .int a4), (5, .int a5)]) : W p l e ({ frames := 69, cells := 0, slots := 0, locals := 2610 }) s m args below meth c H locs 0 0 (MQ below (ct_qv G n I z) args s 0 0 (cx_A G)) (F0 m 54 ls []) := by
  unfold f_X9_draws_L54 at h
  refine lv_iload X.1 X.2.1 dX9_draws_54 (lv_at hl 3 rfl) ?_
  refine lv_aload_n X.1 X.2.1 dX9_draws_56 rfl (lv_at hl 0 rfl) ?_
  refine gf_X9_271 X S hn (by decide) dX9_draws_57 ?_
  refine lv_iload X.1 X.2.1 dX9_draws_60 (lv_at hl 4 rfl) ?_
  refine lv_ishr X.1 X.2.1 dX9_draws_62 ?_
  refine lv_iconst (v := 1) X.1 X.2.1 dX9_draws_63 (by decide) ?_
  refine lv_iand X.1 X.2.1 dX9_draws_64 ?_
  refine lv_iconst (v := 1) X.1 X.2.1 dX9_draws_65 (by decide) ?_
  refine lv_icmp_ne (tgt := 73) X.1 X.2.1 dX9_draws_66 (by decide) (fun c_11 => ?_) (fun c_11 => ?_)
  · have h := pz_f c_11 h
    refine lv_iconst (v := 1) X.1 X.2.1 dX9_draws_73 (by decide) ?_
    exact w_X9_draws_L74 X hn K11 K36 h S (lv_sub hl [0, 1, 2, 4] rfl)
  have h := pz_t c_11 h
  refine lv_iconst (v := 0) X.1 X.2.1 dX9_draws_69 (by decide) ?_
  refine lv_goto (tgt := 74) X.1 X.2.1 dX9_draws_70 (by decide) ?_
  exact w_X9_draws_L74 X hn K11 K36 h S (lv_sub hl [0, 1, 2, 4] rfl)
def f_X9_draws_L36 (N : Nat) (p1 : Int32) (k11 : mm_T → Int32 → Int32 → Option (mm_T)) : Nat → mm_T → Int32 → Int32 → Int32 → Int32 → Option (mm_T)
  | 0, _, _, _, _, _ => none
  | cnt + 1, J, a2, a3, a4, a5 => if (((J 9 0 39) >>> (a5 &&& 31)) &&& (1 : Int32)) = (1 : Int32) then (f_X9_draws_L54 N p1 k11 (f_X9_draws_L36 N p1 k11 cnt) J a2 a3 a4 a5) else (if a4 ≤ 0 then (pz_bd (f_X9_calls N J a5) fun q_9 => pz_lt (a3 + (-1 : Int32)) fun x_10 => k11 q_9 a2 x_10) else (f_X9_draws_L54 N p1 k11 (f_X9_draws_L36 N p1 k11 cnt) J a2 a3 a4 a5))
set_option maxRecDepth 100000 in
set_option maxHeartbeats 4000000 in
theorem w_X9_draws_L36 {l : Launch} {G : cx_T} {p : Program} {e : Env} {s : State} {m : MethodId} {args : Array Value} {below : List Frame} {meth : Method} {c : Code} {N n : Nat} {I : mm_T} {p1 : Int32} (X : cx_ok G p s m args meth c cX9_draws 6 RX9 none) (hn : 144 ≤ n) {k11 : mm_T → Int32 → Int32 → Option (mm_T)} {z : mm_T} (K11 : ∀ {J : mm_T} {a2 : Int32} {a3 : Int32} {H : Heap} {locs : List Loc} {ls : Array Slot}, k11 J a2 a3 = some z → st_ok G n I J s H locs → lv_has ls 6 [(0, .ref (cx_b G + ly_loc 9 0)), (2, .int a2), (3, .int a3)] → W p l e ({ frames := 69, cells := 0, slots := 0, locals := 2610 }) s m args below meth c H locs 0 0 (MQ below (ct_qv G n I z) args s 0 0 (cx_A G)) (F0 m 11 ls [])) : ∀ (cnt : Nat) {J : mm_T} {a2 : Int32} {a3 : Int32} {a4 : Int32} {a5 : Int32} {H : Heap} {locs : List Loc} {ls : Array Slot} , f_X9_draws_L36 N p1 k11 cnt J a2 a3 a4 a5 = some z → st_ok G n I J s H locs → lv_has ls 6 [(0, .ref (cx_b G + ly_loc 9 0)), (2, .int a2), (3, .int a3), (4, .int a4), (5, .int a5)] → W p l e ({ frames := 69, cells := 0, slots := 0, locals := 2610 }) s m args below meth c H locs 0 0 (MQ below (ct_qv G n I z) args s 0 0 (cx_A G)) (F0 m 36 ls []) := by
  intro cnt
  induction cnt with
  | zero =>
    intro J a2 a3 a4 a5 H locs ls h
    rw [f_X9_draws_L36] at h
    cases h
  | succ cnt ih =>
    intro J a2 a3 a4 a5 H locs ls h S hl
    rw [f_X9_draws_L36] at h
    refine lv_aload_n X.1 X.2.1 dX9_draws_36 rfl (lv_at hl 0 rfl) ?_
    refine gf_X9_271 X S hn (by decide) dX9_draws_37 ?_
    refine lv_iload X.1 X.2.1 dX9_draws_40 (lv_at hl 4 rfl) ?_
    refine lv_ishr X.1 X.2.1 dX9_draws_42 ?_
    refine lv_iconst (v := 1) X.1 X.2.1 dX9_draws_43 (by decide) ?_
    refine lv_iand X.1 X.2.1 dX9_draws_44 ?_
    refine lv_iconst (v := 1) X.1 X.2.1 dX9_draws_45 (by decide) ?_
    refine lv_icmp_eq (tgt := 54) X.1 X.2.1 dX9_draws_46 (by decide) (fun c_7 => ?_) (fun c_7 => ?_)
    · have h := pz_t c_7 h
      exact w_X9_draws_L54 X hn K11 ih h S (lv_sub hl [0, 1, 2, 3, 4] rfl)
    have h := pz_f c_7 h
    refine lv_iload X.1 X.2.1 dX9_draws_49 (lv_at hl 3 rfl) ?_
    refine lv_if_le (tgt := 83) X.1 X.2.1 dX9_draws_51 (by decide) (fun c_8 => ?_) (fun c_8 => ?_)
    · have h := pz_t c_8 h
      refine lv_aload_n X.1 X.2.1 dX9_draws_83 rfl (lv_at hl 0 rfl) ?_
      refine lv_iload X.1 X.2.1 dX9_draws_84 (lv_at hl 4 rfl) ?_
      obtain ⟨q_9, eq_9, h⟩ := pz_bd_e h
      refine r_Vv X S (c_X9_calls hn eq_9) gd_X9_302 ⟨rfl, ny_X9_calls⟩ ⟨rfl, rfl⟩ ⟨Nat.le_of_ble_eq_true rfl, Nat.le_of_ble_eq_true rfl⟩ (r_recv X S (ly_ok_9 (by decide) hn) rfl rfl) rfl rfl hl.1 (Nat.le_of_ble_eq_true rfl) dX9_draws_86 (fun H locs S => ?_)
      obtain ⟨x_10, ex_10⟩ : ∃ y : Int32, y = (a3 + (-1 : Int32)) := ⟨_, rfl⟩
      have h := pz_lt_e h ex_10
      refine lv_iinc (v := x_10) (lv' := [(3, .int x_10), (0, .ref (cx_b G + ly_loc 9 0)), (2, .int a2), (4, .int a4), (5, .int a5)]) X.1 X.2.1 dX9_draws_89 hl (k := 2) rfl (by rw [ex_10]; rfl) (by decide) rfl (fun ls hl => ?_)
      refine lv_goto (tgt := 11) X.1 X.2.1 dX9_draws_92 (by decide) ?_
      exact K11 h S (lv_sub hl [1, 2, 0] rfl)
    have h := pz_f c_8 h
    exact w_X9_draws_L54 X hn K11 ih h S (lv_sub hl [0, 1, 2, 3, 4] rfl)
def f_X9_draws_L11 (N : Nat) (p1 : Int32) : Nat → mm_T → Int32 → Int32 → Option (mm_T)
  | 0, _, _, _ => none
  | cnt + 1, J, a2, a3 => if a3 ≤ 0 then (some J) else (pz_lt ((a2 * (1103515245 : Int32)) + (12345 : Int32)) fun x_4 => pz_gd (decide (¬ a3 = 0)) <| pz_lt (((x_4.toUInt32 >>> ((9 : Int32).toUInt32 &&& Int32.toUInt32 31)).toInt32) - ((x_4.toUInt32 >>> ((9 : Int32).toUInt32 &&& Int32.toUInt32 31)).toInt32) / a3 * a3) fun x_6 => f_X9_draws_L36 N p1 (f_X9_draws_L11 N p1 cnt) N J x_4 a3 x_6 (0 : Int32))
set_option maxRecDepth 100000 in
set_option maxHeartbeats 4000000 in
theorem w_X9_draws_L11 {l : Launch} {G : cx_T} {p : Program} {e : Env} {s : State} {m : MethodId} {args : Array Value} {below : List Frame} {meth : Method} {c : Code} {N n : Nat} {I : mm_T} {p1 : Int32} (X : cx_ok G p s m args meth c cX9_draws 6 RX9 none) (hn : 144 ≤ n) {z : mm_T} : ∀ (cnt : Nat) {J : mm_T} {a2 : Int32} {a3 : Int32} {H : Heap} {locs : List Loc} {ls : Array Slot} , f_X9_draws_L11 N p1 cnt J a2 a3 = some z → st_ok G n I J s H locs → lv_has ls 6 [(0, .ref (cx_b G + ly_loc 9 0)), (2, .int a2), (3, .int a3)] → W p l e ({ frames := 69, cells := 0, slots := 0, locals := 2610 }) s m args below meth c H locs 0 0 (MQ below (ct_qv G n I z) args s 0 0 (cx_A G)) (F0 m 11 ls []) := by
  intro cnt
  induction cnt with
  | zero =>
    intro J a2 a3 H locs ls h
    rw [f_X9_draws_L11] at h
    cases h
  | succ cnt ih =>
    intro J a2 a3 H locs ls h S hl
    rw [f_X9_draws_L11] at h
    refine lv_iload_n X.1 X.2.1 dX9_draws_11 rfl (lv_at hl 2 rfl) ?_
    refine lv_if_le (tgt := 95) X.1 X.2.1 dX9_draws_12 (by decide) (fun c_3 => ?_) (fun c_3 => ?_)
    · have h := pz_t c_3 h
      cases h
      exact r_vret X S dX9_draws_95
    have h := pz_f c_3 h
    refine lv_iload_n X.1 X.2.1 dX9_draws_15 rfl (lv_at hl 1 rfl) ?_
    refine lv_ldcw (v := 1103515245) X.1 X.2.1 X.2.2.2.1 (X.2.2.2.2.1 _ kw_X9_363) dX9_draws_16 ?_
    refine lv_imul X.1 X.2.1 dX9_draws_19 ?_
    refine lv_sipush (v := 12345) X.1 X.2.1 dX9_draws_20 (by decide) ?_
    refine lv_iadd X.1 X.2.1 dX9_draws_23 ?_
    refine lv_topi (fun x_4 ex_4 => ?_)
    have h := pz_lt_e h ex_4
    refine lv_istore_n (lv' := [(2, .int x_4), (0, .ref (cx_b G + ly_loc 9 0)), (3, .int a3)]) X.1 X.2.1 dX9_draws_24 rfl hl (by decide) rfl (fun ls hl => ?_)
    refine lv_iload_n X.1 X.2.1 dX9_draws_25 rfl (lv_at hl 0 rfl) ?_
    refine lv_bipush (v := 9) X.1 X.2.1 dX9_draws_26 (by decide) ?_
    refine lv_iushr X.1 X.2.1 dX9_draws_28 rfl ?_
    refine lv_iload_n X.1 X.2.1 dX9_draws_29 rfl (lv_at hl 2 rfl) ?_
    obtain ⟨g_5, h⟩ := pz_gd_e h
    refine lv_irem X.1 X.2.1 dX9_draws_30 (of_decide_eq_true g_5) ?_
    refine lv_topi (fun x_6 ex_6 => ?_)
    have h := pz_lt_e h ex_6
    refine lv_istore (lv' := [(4, .int x_6), (2, .int x_4), (0, .ref (cx_b G + ly_loc 9 0)), (3, .int a3)]) X.1 X.2.1 dX9_draws_31 hl (by decide) rfl (fun ls hl => ?_)
    refine lv_iconst (v := 0) X.1 X.2.1 dX9_draws_33 (by decide) ?_
    refine lv_istore (lv' := [(5, .int (0 : Int32)), (4, .int x_6), (2, .int x_4), (0, .ref (cx_b G + ly_loc 9 0)), (3, .int a3)]) X.1 X.2.1 dX9_draws_34 hl (by decide) rfl (fun ls hl => ?_)
    exact w_X9_draws_L36 X hn ih N h S (lv_sub hl [3, 2, 4, 1, 0] rfl)
def f_X9_draws (N : Nat) (J : mm_T) (p1 : Int32) : Option (mm_T) := pz_bd (f_X9_begins N J) fun q_1 => pz_lt (q_1 9 0 14) fun x_2 => f_X9_draws_L11 N p1 N q_1 p1 x_2
set_option maxRecDepth 100000 in
set_option maxHeartbeats 4000000 in
theorem c_X9_draws {l : Launch} {G : cx_T} {N n : Nat} {I J : mm_T} {p1 : Int32} (hn : 144 ≤ n) {z : mm_T} (h : f_X9_draws N J p1 = some z) : ct_m l G n yX9_draws cX9_draws 6 none ({ frames := 69, cells := 0, slots := 0, locals := 2610 }) [.ref (cx_b G + ly_loc 9 0), .int p1] I J (ct_qv G n I z) := by
  refine ct_en (by decide) (Nat.le_of_ble_eq_true rfl) ?_
  intro p e s m args below meth c ls X S hl
  have X : cx_ok G p s m args meth c cX9_draws 6 RX9 none := X
  have hl : lv_has ls 6 [(0, .ref (cx_b G + ly_loc 9 0)), (1, .int p1)] := hl
  unfold f_X9_draws at h
  refine lv_aload_n X.1 X.2.1 dX9_draws_0 rfl (lv_at hl 0 rfl) ?_
  obtain ⟨q_1, eq_1, h⟩ := pz_bd_e h
  refine r_Vv X S (c_X9_begins hn eq_1) gd_X9_296 ⟨rfl, ny_X9_begins⟩ ⟨rfl, rfl⟩ ⟨Nat.le_of_ble_eq_true rfl, Nat.le_of_ble_eq_true rfl⟩ (r_recv X S (ly_ok_9 (by decide) hn) rfl rfl) rfl rfl hl.1 (Nat.le_of_ble_eq_true rfl) dX9_draws_1 (fun H locs S => ?_)
  refine lv_iload_n X.1 X.2.1 dX9_draws_4 rfl (lv_at hl 1 rfl) ?_
  refine lv_istore_n (lv' := [(2, .int p1), (0, .ref (cx_b G + ly_loc 9 0)), (1, .int p1)]) X.1 X.2.1 dX9_draws_5 rfl hl (by decide) rfl (fun ls hl => ?_)
  refine lv_aload_n X.1 X.2.1 dX9_draws_6 rfl (lv_at hl 1 rfl) ?_
  refine gf_X9_98 X S hn (by decide) dX9_draws_7 ?_
  refine lv_topi (fun x_2 ex_2 => ?_)
  have h := pz_lt_e h ex_2
  refine lv_istore_n (lv' := [(3, .int x_2), (2, .int p1), (0, .ref (cx_b G + ly_loc 9 0)), (1, .int p1)]) X.1 X.2.1 dX9_draws_10 rfl hl (by decide) rfl (fun ls hl => ?_)
  exact w_X9_draws_L11 X hn N h S (lv_sub hl [2, 1, 0] rfl)
def f_X9_drawn (N : Nat) (J : mm_T) (p1 : Int32) : Option (mm_T × Int32) := pz_bd (f_X9_draws N J p1) fun q_1 => some (q_1, (q_1 9 0 34))
set_option maxRecDepth 100000 in
set_option maxHeartbeats 4000000 in
theorem c_X9_drawn {l : Launch} {G : cx_T} {N n : Nat} {I J : mm_T} {p1 : Int32} (hn : 144 ≤ n) {z : mm_T × Int32} (h : f_X9_drawn N J p1 = some z) : ct_m l G n yX9_drawn cX9_drawn 2 (some .int) ({ frames := 70, cells := 0, slots := 0, locals := 2635 }) [.ref (cx_b G + ly_loc 9 0), .int p1] I J (ct_qi G n I z.1 z.2) := by
  refine ct_en (by decide) (Nat.le_of_ble_eq_true rfl) ?_
  intro p e s m args below meth c ls X S hl
  have X : cx_ok G p s m args meth c cX9_drawn 2 RX9 (some .int) := X
  have hl : lv_has ls 2 [(0, .ref (cx_b G + ly_loc 9 0)), (1, .int p1)] := hl
  unfold f_X9_drawn at h
  refine lv_aload_n X.1 X.2.1 dX9_drawn_0 rfl (lv_at hl 0 rfl) ?_
  refine lv_iload_n X.1 X.2.1 dX9_drawn_1 rfl (lv_at hl 1 rfl) ?_
  obtain ⟨q_1, eq_1, h⟩ := pz_bd_e h
  refine r_Vv X S (c_X9_draws hn eq_1) gd_X9_364 ⟨rfl, ny_X9_draws⟩ ⟨rfl, rfl⟩ ⟨Nat.le_of_ble_eq_true rfl, Nat.le_of_ble_eq_true rfl⟩ (r_recv X S (ly_ok_9 (by decide) hn) rfl rfl) rfl rfl hl.1 (Nat.le_of_ble_eq_true rfl) dX9_drawn_2 (fun H locs S => ?_)
  refine lv_aload_n X.1 X.2.1 dX9_drawn_5 rfl (lv_at hl 0 rfl) ?_
  refine gf_X9_255 X S hn (by decide) dX9_drawn_6 ?_
  cases h
  exact r_iret X S dX9_drawn_9
def f_X9_chance_L60 (N : Nat) (p1 : Int32) (p2 : Int32) (p3 : Int32) (k32 : mm_T → Int32 → Int32 → Int32 → Int64 → Int32 → Option (mm_T × Int64)) (J : mm_T) (a1 : Int32) (a2 : Int32) (a3 : Int32) (a6 : Int32) (s0 : Int64) (s1 : Int64) : Option (mm_T × Int64) := pz_lt (s1 + s0) fun x_16 => pz_lt (a6 + (1 : Int32)) fun x_17 => k32 J a1 a2 a3 x_16 x_17
set_option maxRecDepth 100000 in
set_option maxHeartbeats 4000000 in
theorem w_X9_chance_L60 {l : Launch} {G : cx_T} {p : Program} {e : Env} {s : State} {m : MethodId} {args : Array Value} {below : List Frame} {meth : Method} {c : Code} {N n : Nat} {I : mm_T} {p1 : Int32} {p2 : Int32} {p3 : Int32} (X : cx_ok G p s m args meth c cX9_chance 12 RX9 (some .long)) (hn : 144 ≤ n) {k32 : mm_T → Int32 → Int32 → Int32 → Int64 → Int32 → Option (mm_T × Int64)} {z : mm_T × Int64} (K32 : ∀ {J : mm_T} {a1 : Int32} {a2 : Int32} {a3 : Int32} {a4 : Int64} {a6 : Int32} {H : Heap} {locs : List Loc} {ls : Array Slot}, k32 J a1 a2 a3 a4 a6 = some z → st_ok G n I J s H locs → lv_has ls 12 [(0, .ref (cx_b G + ly_loc 9 0)), (1, .int a1), (2, .int a2), (3, .int a3), (4, .long a4), (6, .int a6)] → W p l e ({ frames := 70, cells := 0, slots := 0, locals := 2635 }) s m args below meth c H locs 0 0 (MQ below (ct_ql G n I z.1 z.2) args s 0 0 (cx_A G)) (F0 m 32 ls [])) {J : mm_T} {a1 : Int32} {a2 : Int32} {a3 : Int32} {a6 : Int32} {s0 : Int64} {s1 : Int64} {H : Heap} {locs : List Loc} {ls : Array Slot} (h : f_X9_chance_L60 N p1 p2 p3 k32 J a1 a2 a3 a6 s0 s1 = some z) (S : st_ok G n I J s H locs) (hl : lv_has ls 12 [(0, .ref (cx_b G + ly_loc 9 0)), (1, .int a1), (2, .int a2), (3, .int a3), (6, .int a6)]) : W p l e ({ frames := 70, cells := 0, slots := 0, locals := 2635 }) s m args below meth c H locs 0 0 (MQ below (ct_ql G n I z.1 z.2) args s 0 0 (cx_A G)) (F0 m 60 ls [.long s0, .long s1]) := by
  unfold f_X9_chance_L60 at h
  refine lv_ladd X.1 X.2.1 dX9_chance_60 ?_
  refine lv_topl (fun x_16 ex_16 => ?_)
  have h := pz_lt_e h ex_16
  refine lv_lstore (lv' := [(4, .long x_16), (0, .ref (cx_b G + ly_loc 9 0)), (1, .int a1), (2, .int a2), (3, .int a3), (6, .int a6)]) X.1 X.2.1 dX9_chance_61 hl (by decide) rfl (fun ls hl => ?_)
  obtain ⟨x_17, ex_17⟩ : ∃ y : Int32, y = (a6 + (1 : Int32)) := ⟨_, rfl⟩
  have h := pz_lt_e h ex_17
  refine lv_iinc (v := x_17) (lv' := [(6, .int x_17), (4, .long x_16), (0, .ref (cx_b G + ly_loc 9 0)), (1, .int a1), (2, .int a2), (3, .int a3)]) X.1 X.2.1 dX9_chance_63 hl (k := 5) rfl (by rw [ex_17]; rfl) (by decide) rfl (fun ls hl => ?_)
  refine lv_goto (tgt := 32) X.1 X.2.1 dX9_chance_66 (by decide) ?_
  exact K32 h S (lv_sub hl [2, 3, 4, 5, 1, 0] rfl)
def f_X9_chance_L77 (N : Nat) (p1 : Int32) (p2 : Int32) (p3 : Int32) : Nat → mm_T → Int32 → Int32 → Int64 → Int64 → Int64 → Option (mm_T × Int64)
  | 0, _, _, _, _, _, _ => none
  | cnt + 1, J, a2, a3, a4, a6, a8 => if (lg_cmp a8 (0 : Int64)) = 0 then (if a3 = 0 then (pz_gd (decide (¬ a6 = 0)) <| some (J, (a4 / a6))) else (pz_gd (decide (¬ a6 = 0)) <| some (J, ((a2.toInt64) / a6)))) else (pz_gd (decide (¬ a8 = 0)) <| pz_lt (a6 - a6 / a8 * a8) fun x_15 => f_X9_chance_L77 N p1 p2 p3 cnt J a2 a3 a4 a8 x_15)
set_option maxRecDepth 100000 in
set_option maxHeartbeats 4000000 in
theorem w_X9_chance_L77 {l : Launch} {G : cx_T} {p : Program} {e : Env} {s : State} {m : MethodId} {args : Array Value} {below : List Frame} {meth : Method} {c : Code} {N n : Nat} {I : mm_T} {p1 : Int32} {p2 : Int32} {p3 : Int32} (X : cx_ok G p s m args meth c cX9_chance 12 RX9 (some .long)) (hn : 144 ≤ n) {z : mm_T × Int64} : ∀ (cnt : Nat) {J : mm_T} {a2 : Int32} {a3 : Int32} {a4 : Int64} {a6 : Int64} {a8 : Int64} {H : Heap} {locs : List Loc} {ls : Array Slot} , f_X9_chance_L77 N p1 p2 p3 cnt J a2 a3 a4 a6 a8 = some z → st_ok G n I J s H locs → lv_has ls 12 [(2, .int a2), (3, .int a3), (4, .long a4), (6, .long a6), (8, .long a8)] → W p l e ({ frames := 70, cells := 0, slots := 0, locals := 2635 }) s m args below meth c H locs 0 0 (MQ below (ct_ql G n I z.1 z.2) args s 0 0 (cx_A G)) (F0 m 77 ls []) := by
  intro cnt
  induction cnt with
  | zero =>
    intro J a2 a3 a4 a6 a8 H locs ls h
    rw [f_X9_chance_L77] at h
    cases h
  | succ cnt ih =>
    intro J a2 a3 a4 a6 a8 H locs ls h S hl
    rw [f_X9_chance_L77] at h
    refine lv_lload X.1 X.2.1 dX9_chance_77 (lv_at hl 4 rfl) ?_
    refine lv_lconst (v := 0) X.1 X.2.1 dX9_chance_79 (by decide) ?_
    refine W.lcmp X.1 X.2.1 dX9_chance_80 ?_
    refine lv_if_eq (tgt := 102) X.1 X.2.1 dX9_chance_81 (by decide) (fun c_10 => ?_) (fun c_10 => ?_)
    · have h := pz_t c_10 h
      refine lv_iload_n X.1 X.2.1 dX9_chance_102 rfl (lv_at hl 1 rfl) ?_
      refine lv_if_ne (tgt := 114) X.1 X.2.1 dX9_chance_103 (by decide) (fun c_11 => ?_) (fun c_11 => ?_)
      · have h := pz_f c_11 h
        refine lv_iload_n X.1 X.2.1 dX9_chance_114 rfl (lv_at hl 0 rfl) ?_
        refine lv_i2l X.1 X.2.1 dX9_chance_115 rfl ?_
        refine lv_lload X.1 X.2.1 dX9_chance_116 (lv_at hl 3 rfl) ?_
        obtain ⟨g_12, h⟩ := pz_gd_e h
        refine lv_ldiv X.1 X.2.1 dX9_chance_118 (of_decide_eq_true g_12) ?_
        cases h
        exact r_lret X S dX9_chance_119
      have h := pz_t c_11 h
      refine lv_lload X.1 X.2.1 dX9_chance_106 (lv_at hl 2 rfl) ?_
      refine lv_lload X.1 X.2.1 dX9_chance_108 (lv_at hl 3 rfl) ?_
      obtain ⟨g_13, h⟩ := pz_gd_e h
      refine lv_ldiv X.1 X.2.1 dX9_chance_110 (of_decide_eq_true g_13) ?_
      refine lv_goto (tgt := 119) X.1 X.2.1 dX9_chance_111 (by decide) ?_
      cases h
      exact r_lret X S dX9_chance_119
    have h := pz_f c_10 h
    refine lv_lload X.1 X.2.1 dX9_chance_84 (lv_at hl 3 rfl) ?_
    refine lv_lload X.1 X.2.1 dX9_chance_86 (lv_at hl 4 rfl) ?_
    obtain ⟨g_14, h⟩ := pz_gd_e h
    refine lv_lrem X.1 X.2.1 dX9_chance_88 (of_decide_eq_true g_14) ?_
    refine lv_topl (fun x_15 ex_15 => ?_)
    have h := pz_lt_e h ex_15
    refine lv_lstore (lv' := [(10, .long x_15), (2, .int a2), (3, .int a3), (4, .long a4), (6, .long a6), (8, .long a8)]) X.1 X.2.1 dX9_chance_89 hl (by decide) rfl (fun ls hl => ?_)
    refine lv_lload X.1 X.2.1 dX9_chance_91 (lv_at hl 5 rfl) ?_
    refine lv_lstore (lv' := [(6, .long a8), (10, .long x_15), (2, .int a2), (3, .int a3), (4, .long a4), (8, .long a8)]) X.1 X.2.1 dX9_chance_93 hl (by decide) rfl (fun ls hl => ?_)
    refine lv_lload X.1 X.2.1 dX9_chance_95 (lv_at hl 1 rfl) ?_
    refine lv_lstore (lv' := [(8, .long x_15), (6, .long a8), (10, .long x_15), (2, .int a2), (3, .int a3), (4, .long a4)]) X.1 X.2.1 dX9_chance_97 hl (by decide) rfl (fun ls hl => ?_)
    refine lv_goto (tgt := 77) X.1 X.2.1 dX9_chance_99 (by decide) ?_
    exact ih h S (lv_sub hl [3, 4, 5, 1, 0] rfl)
def f_X9_chance_L32 (N : Nat) (p1 : Int32) (p2 : Int32) (p3 : Int32) : Nat → mm_T → Int32 → Int32 → Int32 → Int64 → Int32 → Option (mm_T × Int64)
  | 0, _, _, _, _, _, _ => none
  | cnt + 1, J, a1, a2, a3, a4, a6 => if a2 ≤ a6 then (pz_lt (a2.toInt64) fun x_6 => f_X9_chance_L77 N p1 p2 p3 N J a2 a3 a4 a4 x_6) else (pz_bd (f_X9_draws N J (a1 + a6)) fun q_7 => pz_bd (f_X9_leftMany N q_7) fun q_8 => if q_8 = 0 then (f_X9_chance_L60 N p1 p2 p3 (f_X9_chance_L32 N p1 p2 p3 cnt) q_7 a1 a2 a3 a6 (1 : Int64) a4) else (f_X9_chance_L60 N p1 p2 p3 (f_X9_chance_L32 N p1 p2 p3 cnt) q_7 a1 a2 a3 a6 (0 : Int64) a4))
set_option maxRecDepth 100000 in
set_option maxHeartbeats 4000000 in
theorem w_X9_chance_L32 {l : Launch} {G : cx_T} {p : Program} {e : Env} {s : State} {m : MethodId} {args : Array Value} {below : List Frame} {meth : Method} {c : Code} {N n : Nat} {I : mm_T} {p1 : Int32} {p2 : Int32} {p3 : Int32} (X : cx_ok G p s m args meth c cX9_chance 12 RX9 (some .long)) (hn : 144 ≤ n) {z : mm_T × Int64} : ∀ (cnt : Nat) {J : mm_T} {a1 : Int32} {a2 : Int32} {a3 : Int32} {a4 : Int64} {a6 : Int32} {H : Heap} {locs : List Loc} {ls : Array Slot} , f_X9_chance_L32 N p1 p2 p3 cnt J a1 a2 a3 a4 a6 = some z → st_ok G n I J s H locs → lv_has ls 12 [(0, .ref (cx_b G + ly_loc 9 0)), (1, .int a1), (2, .int a2), (3, .int a3), (4, .long a4), (6, .int a6)] → W p l e ({ frames := 70, cells := 0, slots := 0, locals := 2635 }) s m args below meth c H locs 0 0 (MQ below (ct_ql G n I z.1 z.2) args s 0 0 (cx_A G)) (F0 m 32 ls []) := by
  intro cnt
  induction cnt with
  | zero =>
    intro J a1 a2 a3 a4 a6 H locs ls h
    rw [f_X9_chance_L32] at h
    cases h
  | succ cnt ih =>
    intro J a1 a2 a3 a4 a6 H locs ls h S hl
    rw [f_X9_chance_L32] at h
    refine lv_iload X.1 X.2.1 dX9_chance_32 (lv_at hl 5 rfl) ?_
    refine lv_iload_n X.1 X.2.1 dX9_chance_34 rfl (lv_at hl 2 rfl) ?_
    refine lv_icmp_ge (tgt := 69) X.1 X.2.1 dX9_chance_35 (by decide) (fun c_5 => ?_) (fun c_5 => ?_)
    · have h := pz_t c_5 h
      refine lv_lload X.1 X.2.1 dX9_chance_69 (lv_at hl 4 rfl) ?_
      refine lv_lstore (lv' := [(6, .long a4), (0, .ref (cx_b G + ly_loc 9 0)), (1, .int a1), (2, .int a2), (3, .int a3), (4, .long a4)]) X.1 X.2.1 dX9_chance_71 hl (by decide) rfl (fun ls hl => ?_)
      refine lv_iload_n X.1 X.2.1 dX9_chance_73 rfl (lv_at hl 3 rfl) ?_
      refine lv_i2l X.1 X.2.1 dX9_chance_74 rfl ?_
      refine lv_topl (fun x_6 ex_6 => ?_)
      have h := pz_lt_e h ex_6
      refine lv_lstore (lv' := [(8, .long x_6), (6, .long a4), (0, .ref (cx_b G + ly_loc 9 0)), (1, .int a1), (2, .int a2), (3, .int a3), (4, .long a4)]) X.1 X.2.1 dX9_chance_75 hl (by decide) rfl (fun ls hl => ?_)
      exact w_X9_chance_L77 X hn N h S (lv_sub hl [4, 5, 6, 1, 0] rfl)
    have h := pz_f c_5 h
    refine lv_aload_n X.1 X.2.1 dX9_chance_38 rfl (lv_at hl 0 rfl) ?_
    refine lv_iload_n X.1 X.2.1 dX9_chance_39 rfl (lv_at hl 1 rfl) ?_
    refine lv_iload X.1 X.2.1 dX9_chance_40 (lv_at hl 5 rfl) ?_
    refine lv_iadd X.1 X.2.1 dX9_chance_42 ?_
    obtain ⟨q_7, eq_7, h⟩ := pz_bd_e h
    refine r_Vv X S (c_X9_draws hn eq_7) gd_X9_364 ⟨rfl, ny_X9_draws⟩ ⟨rfl, rfl⟩ ⟨Nat.le_of_ble_eq_true rfl, Nat.le_of_ble_eq_true rfl⟩ (r_recv X S (ly_ok_9 (by decide) hn) rfl rfl) rfl rfl hl.1 (Nat.le_of_ble_eq_true rfl) dX9_chance_43 (fun H locs S => ?_)
    refine lv_lload X.1 X.2.1 dX9_chance_46 (lv_at hl 4 rfl) ?_
    refine lv_aload_n X.1 X.2.1 dX9_chance_48 rfl (lv_at hl 0 rfl) ?_
    obtain ⟨q_8, eq_8, h⟩ := pz_bd_e h
    refine r_Vi X S (c_X9_leftMany hn eq_8) gd_X9_293 ⟨rfl, ny_X9_leftMany⟩ ⟨rfl, rfl⟩ ⟨Nat.le_of_ble_eq_true rfl, Nat.le_of_ble_eq_true rfl⟩ (r_recv X S (ly_ok_9 (by decide) hn) rfl rfl) rfl rfl hl.1 (Nat.le_of_ble_eq_true rfl) dX9_chance_49 (fun H locs S => ?_)
    refine lv_if_ne (tgt := 59) X.1 X.2.1 dX9_chance_52 (by decide) (fun c_9 => ?_) (fun c_9 => ?_)
    · have h := pz_f c_9 h
      refine lv_lconst (v := 0) X.1 X.2.1 dX9_chance_59 (by decide) ?_
      exact w_X9_chance_L60 X hn ih h S (lv_sub hl [0, 1, 2, 3, 5] rfl)
    have h := pz_t c_9 h
    refine lv_lconst (v := 1) X.1 X.2.1 dX9_chance_55 (by decide) ?_
    refine lv_goto (tgt := 60) X.1 X.2.1 dX9_chance_56 (by decide) ?_
    exact w_X9_chance_L60 X hn ih h S (lv_sub hl [0, 1, 2, 3, 5] rfl)
def f_X9_chance (N : Nat) (J : mm_T) (p1 : Int32) (p2 : Int32) (p3 : Int32) : Option (mm_T × Int64) := pz_bd (f_X9_in N (p2.toInt64) (1 : Int64) (20 : Int64)) fun q_1 => if q_1 = 0 then (some (J, (-4611686018427387904 : Int64))) else (pz_bd (f_X9_in N (p3.toInt64) (0 : Int64) (1 : Int64)) fun q_3 => if q_3 = 0 then (some (J, (-4611686018427387904 : Int64))) else (f_X9_chance_L32 N p1 p2 p3 N J p1 p2 p3 (0 : Int64) (0 : Int32)))
set_option maxRecDepth 100000 in
set_option maxHeartbeats 4000000 in
theorem c_X9_chance {l : Launch} {G : cx_T} {N n : Nat} {I J : mm_T} {p1 : Int32} {p2 : Int32} {p3 : Int32} (hn : 144 ≤ n) {z : mm_T × Int64} (h : f_X9_chance N J p1 p2 p3 = some z) : ct_m l G n yX9_chance cX9_chance 12 (some .long) ({ frames := 70, cells := 0, slots := 0, locals := 2635 }) [.ref (cx_b G + ly_loc 9 0), .int p1, .int p2, .int p3] I J (ct_ql G n I z.1 z.2) := by
  refine ct_en (by decide) (Nat.le_of_ble_eq_true rfl) ?_
  intro p e s m args below meth c ls X S hl
  have X : cx_ok G p s m args meth c cX9_chance 12 RX9 (some .long) := X
  have hl : lv_has ls 12 [(0, .ref (cx_b G + ly_loc 9 0)), (1, .int p1), (2, .int p2), (3, .int p3)] := hl
  unfold f_X9_chance at h
  refine lv_iload_n X.1 X.2.1 dX9_chance_0 rfl (lv_at hl 2 rfl) ?_
  refine lv_i2l X.1 X.2.1 dX9_chance_1 rfl ?_
  refine lv_lconst (v := 1) X.1 X.2.1 dX9_chance_2 (by decide) ?_
  refine lv_ldc2 (v := 20) X.1 X.2.1 X.2.2.2.1 (X.2.2.2.2.1 _ kw_X9_367) dX9_chance_3 ?_
  obtain ⟨q_1, eq_1, h⟩ := pz_bd_e h
  refine r_Si X S (c_X9_in eq_1) gd_X9_94 ny_X9_in ⟨rfl, rfl⟩ ⟨Nat.le_of_ble_eq_true rfl, Nat.le_of_ble_eq_true rfl⟩ rfl rfl hl.1 (Nat.le_of_ble_eq_true rfl) dX9_chance_6 (fun H locs S => ?_)
  refine lv_if_eq (tgt := 22) X.1 X.2.1 dX9_chance_9 (by decide) (fun c_2 => ?_) (fun c_2 => ?_)
  · have h := pz_t c_2 h
    refine lv_ldc2 (v := -4611686018427387904) X.1 X.2.1 X.2.2.2.1 (X.2.2.2.2.1 _ kw_X9_369) dX9_chance_22 ?_
    cases h
    exact r_lret X S dX9_chance_25
  have h := pz_f c_2 h
  refine lv_iload_n X.1 X.2.1 dX9_chance_12 rfl (lv_at hl 3 rfl) ?_
  refine lv_i2l X.1 X.2.1 dX9_chance_13 rfl ?_
  refine lv_lconst (v := 0) X.1 X.2.1 dX9_chance_14 (by decide) ?_
  refine lv_lconst (v := 1) X.1 X.2.1 dX9_chance_15 (by decide) ?_
  obtain ⟨q_3, eq_3, h⟩ := pz_bd_e h
  refine r_Si X S (c_X9_in eq_3) gd_X9_94 ny_X9_in ⟨rfl, rfl⟩ ⟨Nat.le_of_ble_eq_true rfl, Nat.le_of_ble_eq_true rfl⟩ rfl rfl hl.1 (Nat.le_of_ble_eq_true rfl) dX9_chance_16 (fun H locs S => ?_)
  refine lv_if_ne (tgt := 26) X.1 X.2.1 dX9_chance_19 (by decide) (fun c_4 => ?_) (fun c_4 => ?_)
  · have h := pz_f c_4 h
    refine lv_lconst (v := 0) X.1 X.2.1 dX9_chance_26 (by decide) ?_
    refine lv_lstore (lv' := [(4, .long (0 : Int64)), (0, .ref (cx_b G + ly_loc 9 0)), (1, .int p1), (2, .int p2), (3, .int p3)]) X.1 X.2.1 dX9_chance_27 hl (by decide) rfl (fun ls hl => ?_)
    refine lv_iconst (v := 0) X.1 X.2.1 dX9_chance_29 (by decide) ?_
    refine lv_istore (lv' := [(6, .int (0 : Int32)), (4, .long (0 : Int64)), (0, .ref (cx_b G + ly_loc 9 0)), (1, .int p1), (2, .int p2), (3, .int p3)]) X.1 X.2.1 dX9_chance_30 hl (by decide) rfl (fun ls hl => ?_)
    exact w_X9_chance_L32 X hn N h S (lv_sub hl [2, 3, 4, 5, 1, 0] rfl)
  have h := pz_t c_4 h
  refine lv_ldc2 (v := -4611686018427387904) X.1 X.2.1 X.2.2.2.1 (X.2.2.2.2.1 _ kw_X9_369) dX9_chance_22 ?_
  cases h
  exact r_lret X S dX9_chance_25
def f_X9_image_L43 (N : Nat) : Nat → mm_T → Int32 → Option (mm_T × Int32)
  | 0, _, _ => none
  | cnt + 1, J, a1 => if (7 : Int32) ≤ a1 then (pz_lt (mm_up J 9 0 52 (J 9 0 14)) fun J_10 => pz_lt (mm_up J_10 9 0 53 (J_10 9 0 9)) fun J_11 => pz_lt (mm_up J_11 9 0 54 (J_11 9 0 15)) fun J_12 => pz_lt (mm_up J_12 9 0 55 (J_12 9 0 16)) fun J_13 => pz_lt (mm_up J_13 9 0 56 (J_13 9 0 4)) fun J_14 => some (J_14, (J_14 9 0 14))) else (pz_gd (ix_in a1 7) <| pz_gd (ix_in a1 21) <| pz_lt (mm_up J 46 0 a1.toNatClampNeg (J 36 0 a1.toNatClampNeg)) fun J_17 => pz_gd (ix_in a1 7) <| pz_gd (ix_in ((7 : Int32) + a1) 21) <| pz_lt (mm_up J_17 46 0 ((7 : Int32) + a1).toNatClampNeg (J_17 37 0 a1.toNatClampNeg)) fun J_20 => pz_gd (ix_in a1 7) <| pz_gd (ix_in ((14 : Int32) + a1) 21) <| pz_lt (mm_up J_20 46 0 ((14 : Int32) + a1).toNatClampNeg (J_20 38 0 a1.toNatClampNeg)) fun J_23 => pz_lt (a1 + (1 : Int32)) fun x_24 => f_X9_image_L43 N cnt J_23 x_24)
set_option maxRecDepth 100000 in
set_option maxHeartbeats 4000000 in
theorem w_X9_image_L43 {l : Launch} {G : cx_T} {p : Program} {e : Env} {s : State} {m : MethodId} {args : Array Value} {below : List Frame} {meth : Method} {c : Code} {N n : Nat} {I : mm_T} (X : cx_ok G p s m args meth c cX9_image 2 RX9 (some .int)) (hn : 144 ≤ n) {z : mm_T × Int32} : ∀ (cnt : Nat) {J : mm_T} {a1 : Int32} {H : Heap} {locs : List Loc} {ls : Array Slot} , f_X9_image_L43 N cnt J a1 = some z → st_ok G n I J s H locs → lv_has ls 2 [(0, .ref (cx_b G + ly_loc 9 0)), (1, .int a1)] → W p l e ({ frames := 0, cells := 0, slots := 0, locals := 0 }) s m args below meth c H locs 0 0 (MQ below (ct_qi G n I z.1 z.2) args s 0 0 (cx_A G)) (F0 m 43 ls []) := by
  intro cnt
  induction cnt with
  | zero =>
    intro J a1 H locs ls h
    rw [f_X9_image_L43] at h
    cases h
  | succ cnt ih =>
    intro J a1 H locs ls h S hl
    rw [f_X9_image_L43] at h
    refine lv_iload_n X.1 X.2.1 dX9_image_43 rfl (lv_at hl 1 rfl) ?_
    refine lv_bipush (v := 7) X.1 X.2.1 dX9_image_44 (by decide) ?_
    refine lv_icmp_ge (tgt := 97) X.1 X.2.1 dX9_image_46 (by decide) (fun c_9 => ?_) (fun c_9 => ?_)
    · have h := pz_t c_9 h
      refine lv_aload_n X.1 X.2.1 dX9_image_97 rfl (lv_at hl 0 rfl) ?_
      refine lv_aload_n X.1 X.2.1 dX9_image_98 rfl (lv_at hl 0 rfl) ?_
      refine gf_X9_98 X S hn (by decide) dX9_image_99 ?_
      refine pf_X9_68 X S hn (by decide) dX9_image_102 (fun J_10 H locs eJ_10 S => ?_)
      have h := pz_lt_e h eJ_10
      refine lv_aload_n X.1 X.2.1 dX9_image_105 rfl (lv_at hl 0 rfl) ?_
      refine lv_aload_n X.1 X.2.1 dX9_image_106 rfl (lv_at hl 0 rfl) ?_
      refine gf_X9_91 X S hn (by decide) dX9_image_107 ?_
      refine pf_X9_371 X S hn (by decide) dX9_image_110 (fun J_11 H locs eJ_11 S => ?_)
      have h := pz_lt_e h eJ_11
      refine lv_aload_n X.1 X.2.1 dX9_image_113 rfl (lv_at hl 0 rfl) ?_
      refine lv_aload_n X.1 X.2.1 dX9_image_114 rfl (lv_at hl 0 rfl) ?_
      refine gf_X9_127 X S hn (by decide) dX9_image_115 ?_
      refine pf_X9_374 X S hn (by decide) dX9_image_118 (fun J_12 H locs eJ_12 S => ?_)
      have h := pz_lt_e h eJ_12
      refine lv_aload_n X.1 X.2.1 dX9_image_121 rfl (lv_at hl 0 rfl) ?_
      refine lv_aload_n X.1 X.2.1 dX9_image_122 rfl (lv_at hl 0 rfl) ?_
      refine gf_X9_41 X S hn (by decide) dX9_image_123 ?_
      refine pf_X9_377 X S hn (by decide) dX9_image_126 (fun J_13 H locs eJ_13 S => ?_)
      have h := pz_lt_e h eJ_13
      refine lv_aload_n X.1 X.2.1 dX9_image_129 rfl (lv_at hl 0 rfl) ?_
      refine lv_aload_n X.1 X.2.1 dX9_image_130 rfl (lv_at hl 0 rfl) ?_
      refine gf_X9_249 X S hn (by decide) dX9_image_131 ?_
      refine pf_X9_380 X S hn (by decide) dX9_image_134 (fun J_14 H locs eJ_14 S => ?_)
      have h := pz_lt_e h eJ_14
      refine lv_aload_n X.1 X.2.1 dX9_image_137 rfl (lv_at hl 0 rfl) ?_
      refine gf_X9_98 X S hn (by decide) dX9_image_138 ?_
      cases h
      exact r_iret X S dX9_image_141
    have h := pz_f c_9 h
    refine lv_aload_n X.1 X.2.1 dX9_image_49 rfl (lv_at hl 0 rfl) ?_
    refine gf_X9_65 X S hn (by decide) dX9_image_50 ?_
    refine lv_iload_n X.1 X.2.1 dX9_image_53 rfl (lv_at hl 1 rfl) ?_
    refine lv_aload_n X.1 X.2.1 dX9_image_54 rfl (lv_at hl 0 rfl) ?_
    refine gf_X9_32 X S hn (by decide) dX9_image_55 ?_
    refine lv_iload_n X.1 X.2.1 dX9_image_58 rfl (lv_at hl 1 rfl) ?_
    obtain ⟨g_15, h⟩ := pz_gd_e h
    refine al_36 X S hn (by decide) g_15 dX9_image_59 ?_
    obtain ⟨g_16, h⟩ := pz_gd_e h
    refine as_46 X S hn (by decide) g_16 dX9_image_60 (fun J_17 H locs eJ_17 S => ?_)
    have h := pz_lt_e h eJ_17
    refine lv_aload_n X.1 X.2.1 dX9_image_61 rfl (lv_at hl 0 rfl) ?_
    refine gf_X9_65 X S hn (by decide) dX9_image_62 ?_
    refine lv_bipush (v := 7) X.1 X.2.1 dX9_image_65 (by decide) ?_
    refine lv_iload_n X.1 X.2.1 dX9_image_67 rfl (lv_at hl 1 rfl) ?_
    refine lv_iadd X.1 X.2.1 dX9_image_68 ?_
    refine lv_aload_n X.1 X.2.1 dX9_image_69 rfl (lv_at hl 0 rfl) ?_
    refine gf_X9_35 X S hn (by decide) dX9_image_70 ?_
    refine lv_iload_n X.1 X.2.1 dX9_image_73 rfl (lv_at hl 1 rfl) ?_
    obtain ⟨g_18, h⟩ := pz_gd_e h
    refine al_37 X S hn (by decide) g_18 dX9_image_74 ?_
    obtain ⟨g_19, h⟩ := pz_gd_e h
    refine as_46 X S hn (by decide) g_19 dX9_image_75 (fun J_20 H locs eJ_20 S => ?_)
    have h := pz_lt_e h eJ_20
    refine lv_aload_n X.1 X.2.1 dX9_image_76 rfl (lv_at hl 0 rfl) ?_
    refine gf_X9_65 X S hn (by decide) dX9_image_77 ?_
    refine lv_bipush (v := 14) X.1 X.2.1 dX9_image_80 (by decide) ?_
    refine lv_iload_n X.1 X.2.1 dX9_image_82 rfl (lv_at hl 1 rfl) ?_
    refine lv_iadd X.1 X.2.1 dX9_image_83 ?_
    refine lv_aload_n X.1 X.2.1 dX9_image_84 rfl (lv_at hl 0 rfl) ?_
    refine gf_X9_38 X S hn (by decide) dX9_image_85 ?_
    refine lv_iload_n X.1 X.2.1 dX9_image_88 rfl (lv_at hl 1 rfl) ?_
    obtain ⟨g_21, h⟩ := pz_gd_e h
    refine al_38 X S hn (by decide) g_21 dX9_image_89 ?_
    obtain ⟨g_22, h⟩ := pz_gd_e h
    refine as_46 X S hn (by decide) g_22 dX9_image_90 (fun J_23 H locs eJ_23 S => ?_)
    have h := pz_lt_e h eJ_23
    obtain ⟨x_24, ex_24⟩ : ∃ y : Int32, y = (a1 + (1 : Int32)) := ⟨_, rfl⟩
    have h := pz_lt_e h ex_24
    refine lv_iinc (v := x_24) (lv' := [(1, .int x_24), (0, .ref (cx_b G + ly_loc 9 0))]) X.1 X.2.1 dX9_image_91 hl (k := 1) rfl (by rw [ex_24]; rfl) (by decide) rfl (fun ls hl => ?_)
    refine lv_goto (tgt := 43) X.1 X.2.1 dX9_image_94 (by decide) ?_
    exact ih h S (lv_sub hl [1, 0] rfl)
def f_X9_image_L2 (N : Nat) : Nat → mm_T → Int32 → Option (mm_T × Int32)
  | 0, _, _ => none
  | cnt + 1, J, a1 => if (8 : Int32) ≤ a1 then (f_X9_image_L43 N N J (0 : Int32)) else (pz_gd (ix_in a1 8) <| pz_gd (ix_in a1 16) <| pz_lt (mm_up J 45 0 a1.toNatClampNeg (J 33 0 a1.toNatClampNeg)) fun J_4 => pz_gd (ix_in a1 8) <| pz_gd (ix_in ((8 : Int32) + a1) 16) <| pz_lt (mm_up J_4 45 0 ((8 : Int32) + a1).toNatClampNeg (J_4 34 0 a1.toNatClampNeg)) fun J_7 => pz_lt (a1 + (1 : Int32)) fun x_8 => f_X9_image_L2 N cnt J_7 x_8)
set_option maxRecDepth 100000 in
set_option maxHeartbeats 4000000 in
theorem w_X9_image_L2 {l : Launch} {G : cx_T} {p : Program} {e : Env} {s : State} {m : MethodId} {args : Array Value} {below : List Frame} {meth : Method} {c : Code} {N n : Nat} {I : mm_T} (X : cx_ok G p s m args meth c cX9_image 2 RX9 (some .int)) (hn : 144 ≤ n) {z : mm_T × Int32} : ∀ (cnt : Nat) {J : mm_T} {a1 : Int32} {H : Heap} {locs : List Loc} {ls : Array Slot} , f_X9_image_L2 N cnt J a1 = some z → st_ok G n I J s H locs → lv_has ls 2 [(0, .ref (cx_b G + ly_loc 9 0)), (1, .int a1)] → W p l e ({ frames := 0, cells := 0, slots := 0, locals := 0 }) s m args below meth c H locs 0 0 (MQ below (ct_qi G n I z.1 z.2) args s 0 0 (cx_A G)) (F0 m 2 ls []) := by
  intro cnt
  induction cnt with
  | zero =>
    intro J a1 H locs ls h
    rw [f_X9_image_L2] at h
    cases h
  | succ cnt ih =>
    intro J a1 H locs ls h S hl
    rw [f_X9_image_L2] at h
    refine lv_iload_n X.1 X.2.1 dX9_image_2 rfl (lv_at hl 1 rfl) ?_
    refine lv_bipush (v := 8) X.1 X.2.1 dX9_image_3 (by decide) ?_
    refine lv_icmp_ge (tgt := 41) X.1 X.2.1 dX9_image_5 (by decide) (fun c_1 => ?_) (fun c_1 => ?_)
    · have h := pz_t c_1 h
      refine lv_iconst (v := 0) X.1 X.2.1 dX9_image_41 (by decide) ?_
      refine lv_istore_n (lv' := [(1, .int (0 : Int32)), (0, .ref (cx_b G + ly_loc 9 0))]) X.1 X.2.1 dX9_image_42 rfl hl (by decide) rfl (fun ls hl => ?_)
      exact w_X9_image_L43 X hn N h S (lv_sub hl [1, 0] rfl)
    have h := pz_f c_1 h
    refine lv_aload_n X.1 X.2.1 dX9_image_8 rfl (lv_at hl 0 rfl) ?_
    refine gf_X9_62 X S hn (by decide) dX9_image_9 ?_
    refine lv_iload_n X.1 X.2.1 dX9_image_12 rfl (lv_at hl 1 rfl) ?_
    refine lv_aload_n X.1 X.2.1 dX9_image_13 rfl (lv_at hl 0 rfl) ?_
    refine gf_X9_23 X S hn (by decide) dX9_image_14 ?_
    refine lv_iload_n X.1 X.2.1 dX9_image_17 rfl (lv_at hl 1 rfl) ?_
    obtain ⟨g_2, h⟩ := pz_gd_e h
    refine al_33 X S hn (by decide) g_2 dX9_image_18 ?_
    obtain ⟨g_3, h⟩ := pz_gd_e h
    refine as_45 X S hn (by decide) g_3 dX9_image_19 (fun J_4 H locs eJ_4 S => ?_)
    have h := pz_lt_e h eJ_4
    refine lv_aload_n X.1 X.2.1 dX9_image_20 rfl (lv_at hl 0 rfl) ?_
    refine gf_X9_62 X S hn (by decide) dX9_image_21 ?_
    refine lv_bipush (v := 8) X.1 X.2.1 dX9_image_24 (by decide) ?_
    refine lv_iload_n X.1 X.2.1 dX9_image_26 rfl (lv_at hl 1 rfl) ?_
    refine lv_iadd X.1 X.2.1 dX9_image_27 ?_
    refine lv_aload_n X.1 X.2.1 dX9_image_28 rfl (lv_at hl 0 rfl) ?_
    refine gf_X9_26 X S hn (by decide) dX9_image_29 ?_
    refine lv_iload_n X.1 X.2.1 dX9_image_32 rfl (lv_at hl 1 rfl) ?_
    obtain ⟨g_5, h⟩ := pz_gd_e h
    refine al_34 X S hn (by decide) g_5 dX9_image_33 ?_
    obtain ⟨g_6, h⟩ := pz_gd_e h
    refine as_45 X S hn (by decide) g_6 dX9_image_34 (fun J_7 H locs eJ_7 S => ?_)
    have h := pz_lt_e h eJ_7
    obtain ⟨x_8, ex_8⟩ : ∃ y : Int32, y = (a1 + (1 : Int32)) := ⟨_, rfl⟩
    have h := pz_lt_e h ex_8
    refine lv_iinc (v := x_8) (lv' := [(1, .int x_8), (0, .ref (cx_b G + ly_loc 9 0))]) X.1 X.2.1 dX9_image_35 hl (k := 1) rfl (by rw [ex_8]; rfl) (by decide) rfl (fun ls hl => ?_)
    refine lv_goto (tgt := 2) X.1 X.2.1 dX9_image_38 (by decide) ?_
    exact ih h S (lv_sub hl [1, 0] rfl)
def f_X9_image (N : Nat) (J : mm_T) : Option (mm_T × Int32) := f_X9_image_L2 N N J (0 : Int32)
set_option maxRecDepth 100000 in
set_option maxHeartbeats 4000000 in
theorem c_X9_image {l : Launch} {G : cx_T} {N n : Nat} {I J : mm_T} (hn : 144 ≤ n) {z : mm_T × Int32} (h : f_X9_image N J = some z) : ct_m l G n yX9_image cX9_image 2 (some .int) ({ frames := 0, cells := 0, slots := 0, locals := 0 }) [.ref (cx_b G + ly_loc 9 0)] I J (ct_qi G n I z.1 z.2) := by
  refine ct_en (by decide) (Nat.le_of_ble_eq_true rfl) ?_
  intro p e s m args below meth c ls X S hl
  have X : cx_ok G p s m args meth c cX9_image 2 RX9 (some .int) := X
  have hl : lv_has ls 2 [(0, .ref (cx_b G + ly_loc 9 0))] := hl
  unfold f_X9_image at h
  refine lv_iconst (v := 0) X.1 X.2.1 dX9_image_0 (by decide) ?_
  refine lv_istore_n (lv' := [(1, .int (0 : Int32)), (0, .ref (cx_b G + ly_loc 9 0))]) X.1 X.2.1 dX9_image_1 rfl hl (by decide) rfl (fun ls hl => ?_)
  exact w_X9_image_L2 X hn N h S (lv_sub hl [1, 0] rfl)
def f_X9_back_L54 (N : Nat) : Nat → mm_T → Int32 → Option (mm_T × Int32)
  | 0, _, _ => none
  | cnt + 1, J, a1 => if (7 : Int32) ≤ a1 then (pz_lt (mm_up J 9 0 14 (J 9 0 52)) fun J_11 => pz_lt (mm_up J_11 9 0 9 (J_11 9 0 53)) fun J_12 => pz_lt (mm_up J_12 9 0 15 (J_12 9 0 54)) fun J_13 => pz_lt (mm_up J_13 9 0 16 (J_13 9 0 55)) fun J_14 => pz_lt (mm_up J_14 9 0 4 (J_14 9 0 56)) fun J_15 => some (J_15, (J_15 9 0 14))) else (pz_gd (ix_in a1 21) <| pz_gd (ix_in a1 7) <| pz_lt (mm_up J 36 0 a1.toNatClampNeg (J 46 0 a1.toNatClampNeg)) fun J_18 => pz_gd (ix_in ((7 : Int32) + a1) 21) <| pz_gd (ix_in a1 7) <| pz_lt (mm_up J_18 37 0 a1.toNatClampNeg (J_18 46 0 ((7 : Int32) + a1).toNatClampNeg)) fun J_21 => pz_gd (ix_in ((14 : Int32) + a1) 21) <| pz_gd (ix_in a1 7) <| pz_lt (mm_up J_21 38 0 a1.toNatClampNeg (J_21 46 0 ((14 : Int32) + a1).toNatClampNeg)) fun J_24 => pz_lt (a1 + (1 : Int32)) fun x_25 => f_X9_back_L54 N cnt J_24 x_25)
set_option maxRecDepth 100000 in
set_option maxHeartbeats 4000000 in
theorem w_X9_back_L54 {l : Launch} {G : cx_T} {p : Program} {e : Env} {s : State} {m : MethodId} {args : Array Value} {below : List Frame} {meth : Method} {c : Code} {N n : Nat} {I : mm_T} (X : cx_ok G p s m args meth c cX9_back 2 RX9 (some .int)) (hn : 144 ≤ n) {z : mm_T × Int32} : ∀ (cnt : Nat) {J : mm_T} {a1 : Int32} {H : Heap} {locs : List Loc} {ls : Array Slot} , f_X9_back_L54 N cnt J a1 = some z → st_ok G n I J s H locs → lv_has ls 2 [(0, .ref (cx_b G + ly_loc 9 0)), (1, .int a1)] → W p l e ({ frames := 0, cells := 0, slots := 0, locals := 0 }) s m args below meth c H locs 0 0 (MQ below (ct_qi G n I z.1 z.2) args s 0 0 (cx_A G)) (F0 m 54 ls []) := by
  intro cnt
  induction cnt with
  | zero =>
    intro J a1 H locs ls h
    rw [f_X9_back_L54] at h
    cases h
  | succ cnt ih =>
    intro J a1 H locs ls h S hl
    rw [f_X9_back_L54] at h
    refine lv_iload_n X.1 X.2.1 dX9_back_54 rfl (lv_at hl 1 rfl) ?_
    refine lv_bipush (v := 7) X.1 X.2.1 dX9_back_55 (by decide) ?_
    refine lv_icmp_ge (tgt := 108) X.1 X.2.1 dX9_back_57 (by decide) (fun c_10 => ?_) (fun c_10 => ?_)
    · have h := pz_t c_10 h
      refine lv_aload_n X.1 X.2.1 dX9_back_108 rfl (lv_at hl 0 rfl) ?_
      refine lv_aload_n X.1 X.2.1 dX9_back_109 rfl (lv_at hl 0 rfl) ?_
      refine gf_X9_68 X S hn (by decide) dX9_back_110 ?_
      refine pf_X9_98 X S hn (by decide) dX9_back_113 (fun J_11 H locs eJ_11 S => ?_)
      have h := pz_lt_e h eJ_11
      refine lv_aload_n X.1 X.2.1 dX9_back_116 rfl (lv_at hl 0 rfl) ?_
      refine lv_aload_n X.1 X.2.1 dX9_back_117 rfl (lv_at hl 0 rfl) ?_
      refine gf_X9_371 X S hn (by decide) dX9_back_118 ?_
      refine pf_X9_91 X S hn (by decide) dX9_back_121 (fun J_12 H locs eJ_12 S => ?_)
      have h := pz_lt_e h eJ_12
      refine lv_aload_n X.1 X.2.1 dX9_back_124 rfl (lv_at hl 0 rfl) ?_
      refine lv_aload_n X.1 X.2.1 dX9_back_125 rfl (lv_at hl 0 rfl) ?_
      refine gf_X9_374 X S hn (by decide) dX9_back_126 ?_
      refine pf_X9_127 X S hn (by decide) dX9_back_129 (fun J_13 H locs eJ_13 S => ?_)
      have h := pz_lt_e h eJ_13
      refine lv_aload_n X.1 X.2.1 dX9_back_132 rfl (lv_at hl 0 rfl) ?_
      refine lv_aload_n X.1 X.2.1 dX9_back_133 rfl (lv_at hl 0 rfl) ?_
      refine gf_X9_377 X S hn (by decide) dX9_back_134 ?_
      refine pf_X9_41 X S hn (by decide) dX9_back_137 (fun J_14 H locs eJ_14 S => ?_)
      have h := pz_lt_e h eJ_14
      refine lv_aload_n X.1 X.2.1 dX9_back_140 rfl (lv_at hl 0 rfl) ?_
      refine lv_aload_n X.1 X.2.1 dX9_back_141 rfl (lv_at hl 0 rfl) ?_
      refine gf_X9_380 X S hn (by decide) dX9_back_142 ?_
      refine pf_X9_249 X S hn (by decide) dX9_back_145 (fun J_15 H locs eJ_15 S => ?_)
      have h := pz_lt_e h eJ_15
      refine lv_aload_n X.1 X.2.1 dX9_back_148 rfl (lv_at hl 0 rfl) ?_
      refine gf_X9_98 X S hn (by decide) dX9_back_149 ?_
      cases h
      exact r_iret X S dX9_back_152
    have h := pz_f c_10 h
    refine lv_aload_n X.1 X.2.1 dX9_back_60 rfl (lv_at hl 0 rfl) ?_
    refine gf_X9_32 X S hn (by decide) dX9_back_61 ?_
    refine lv_iload_n X.1 X.2.1 dX9_back_64 rfl (lv_at hl 1 rfl) ?_
    refine lv_aload_n X.1 X.2.1 dX9_back_65 rfl (lv_at hl 0 rfl) ?_
    refine gf_X9_65 X S hn (by decide) dX9_back_66 ?_
    refine lv_iload_n X.1 X.2.1 dX9_back_69 rfl (lv_at hl 1 rfl) ?_
    obtain ⟨g_16, h⟩ := pz_gd_e h
    refine al_46 X S hn (by decide) g_16 dX9_back_70 ?_
    obtain ⟨g_17, h⟩ := pz_gd_e h
    refine as_36 X S hn (by decide) g_17 dX9_back_71 (fun J_18 H locs eJ_18 S => ?_)
    have h := pz_lt_e h eJ_18
    refine lv_aload_n X.1 X.2.1 dX9_back_72 rfl (lv_at hl 0 rfl) ?_
    refine gf_X9_35 X S hn (by decide) dX9_back_73 ?_
    refine lv_iload_n X.1 X.2.1 dX9_back_76 rfl (lv_at hl 1 rfl) ?_
    refine lv_aload_n X.1 X.2.1 dX9_back_77 rfl (lv_at hl 0 rfl) ?_
    refine gf_X9_65 X S hn (by decide) dX9_back_78 ?_
    refine lv_bipush (v := 7) X.1 X.2.1 dX9_back_81 (by decide) ?_
    refine lv_iload_n X.1 X.2.1 dX9_back_83 rfl (lv_at hl 1 rfl) ?_
    refine lv_iadd X.1 X.2.1 dX9_back_84 ?_
    obtain ⟨g_19, h⟩ := pz_gd_e h
    refine al_46 X S hn (by decide) g_19 dX9_back_85 ?_
    obtain ⟨g_20, h⟩ := pz_gd_e h
    refine as_37 X S hn (by decide) g_20 dX9_back_86 (fun J_21 H locs eJ_21 S => ?_)
    have h := pz_lt_e h eJ_21
    refine lv_aload_n X.1 X.2.1 dX9_back_87 rfl (lv_at hl 0 rfl) ?_
    refine gf_X9_38 X S hn (by decide) dX9_back_88 ?_
    refine lv_iload_n X.1 X.2.1 dX9_back_91 rfl (lv_at hl 1 rfl) ?_
    refine lv_aload_n X.1 X.2.1 dX9_back_92 rfl (lv_at hl 0 rfl) ?_
    refine gf_X9_65 X S hn (by decide) dX9_back_93 ?_
    refine lv_bipush (v := 14) X.1 X.2.1 dX9_back_96 (by decide) ?_
    refine lv_iload_n X.1 X.2.1 dX9_back_98 rfl (lv_at hl 1 rfl) ?_
    refine lv_iadd X.1 X.2.1 dX9_back_99 ?_
    obtain ⟨g_22, h⟩ := pz_gd_e h
    refine al_46 X S hn (by decide) g_22 dX9_back_100 ?_
    obtain ⟨g_23, h⟩ := pz_gd_e h
    refine as_38 X S hn (by decide) g_23 dX9_back_101 (fun J_24 H locs eJ_24 S => ?_)
    have h := pz_lt_e h eJ_24
    obtain ⟨x_25, ex_25⟩ : ∃ y : Int32, y = (a1 + (1 : Int32)) := ⟨_, rfl⟩
    have h := pz_lt_e h ex_25
    refine lv_iinc (v := x_25) (lv' := [(1, .int x_25), (0, .ref (cx_b G + ly_loc 9 0))]) X.1 X.2.1 dX9_back_102 hl (k := 1) rfl (by rw [ex_25]; rfl) (by decide) rfl (fun ls hl => ?_)
    refine lv_goto (tgt := 54) X.1 X.2.1 dX9_back_105 (by decide) ?_
    exact ih h S (lv_sub hl [1, 0] rfl)
def f_X9_back_L13 (N : Nat) : Nat → mm_T → Int32 → Option (mm_T × Int32)
  | 0, _, _ => none
  | cnt + 1, J, a1 => if (8 : Int32) ≤ a1 then (f_X9_back_L54 N N J (0 : Int32)) else (pz_gd (ix_in a1 16) <| pz_gd (ix_in a1 8) <| pz_lt (mm_up J 33 0 a1.toNatClampNeg (J 45 0 a1.toNatClampNeg)) fun J_5 => pz_gd (ix_in ((8 : Int32) + a1) 16) <| pz_gd (ix_in a1 8) <| pz_lt (mm_up J_5 34 0 a1.toNatClampNeg (J_5 45 0 ((8 : Int32) + a1).toNatClampNeg)) fun J_8 => pz_lt (a1 + (1 : Int32)) fun x_9 => f_X9_back_L13 N cnt J_8 x_9)
set_option maxRecDepth 100000 in
set_option maxHeartbeats 4000000 in
theorem w_X9_back_L13 {l : Launch} {G : cx_T} {p : Program} {e : Env} {s : State} {m : MethodId} {args : Array Value} {below : List Frame} {meth : Method} {c : Code} {N n : Nat} {I : mm_T} (X : cx_ok G p s m args meth c cX9_back 2 RX9 (some .int)) (hn : 144 ≤ n) {z : mm_T × Int32} : ∀ (cnt : Nat) {J : mm_T} {a1 : Int32} {H : Heap} {locs : List Loc} {ls : Array Slot} , f_X9_back_L13 N cnt J a1 = some z → st_ok G n I J s H locs → lv_has ls 2 [(0, .ref (cx_b G + ly_loc 9 0)), (1, .int a1)] → W p l e ({ frames := 0, cells := 0, slots := 0, locals := 0 }) s m args below meth c H locs 0 0 (MQ below (ct_qi G n I z.1 z.2) args s 0 0 (cx_A G)) (F0 m 13 ls []) := by
  intro cnt
  induction cnt with
  | zero =>
    intro J a1 H locs ls h
    rw [f_X9_back_L13] at h
    cases h
  | succ cnt ih =>
    intro J a1 H locs ls h S hl
    rw [f_X9_back_L13] at h
    refine lv_iload_n X.1 X.2.1 dX9_back_13 rfl (lv_at hl 1 rfl) ?_
    refine lv_bipush (v := 8) X.1 X.2.1 dX9_back_14 (by decide) ?_
    refine lv_icmp_ge (tgt := 52) X.1 X.2.1 dX9_back_16 (by decide) (fun c_2 => ?_) (fun c_2 => ?_)
    · have h := pz_t c_2 h
      refine lv_iconst (v := 0) X.1 X.2.1 dX9_back_52 (by decide) ?_
      refine lv_istore_n (lv' := [(1, .int (0 : Int32)), (0, .ref (cx_b G + ly_loc 9 0))]) X.1 X.2.1 dX9_back_53 rfl hl (by decide) rfl (fun ls hl => ?_)
      exact w_X9_back_L54 X hn N h S (lv_sub hl [1, 0] rfl)
    have h := pz_f c_2 h
    refine lv_aload_n X.1 X.2.1 dX9_back_19 rfl (lv_at hl 0 rfl) ?_
    refine gf_X9_23 X S hn (by decide) dX9_back_20 ?_
    refine lv_iload_n X.1 X.2.1 dX9_back_23 rfl (lv_at hl 1 rfl) ?_
    refine lv_aload_n X.1 X.2.1 dX9_back_24 rfl (lv_at hl 0 rfl) ?_
    refine gf_X9_62 X S hn (by decide) dX9_back_25 ?_
    refine lv_iload_n X.1 X.2.1 dX9_back_28 rfl (lv_at hl 1 rfl) ?_
    obtain ⟨g_3, h⟩ := pz_gd_e h
    refine al_45 X S hn (by decide) g_3 dX9_back_29 ?_
    obtain ⟨g_4, h⟩ := pz_gd_e h
    refine as_33 X S hn (by decide) g_4 dX9_back_30 (fun J_5 H locs eJ_5 S => ?_)
    have h := pz_lt_e h eJ_5
    refine lv_aload_n X.1 X.2.1 dX9_back_31 rfl (lv_at hl 0 rfl) ?_
    refine gf_X9_26 X S hn (by decide) dX9_back_32 ?_
    refine lv_iload_n X.1 X.2.1 dX9_back_35 rfl (lv_at hl 1 rfl) ?_
    refine lv_aload_n X.1 X.2.1 dX9_back_36 rfl (lv_at hl 0 rfl) ?_
    refine gf_X9_62 X S hn (by decide) dX9_back_37 ?_
    refine lv_bipush (v := 8) X.1 X.2.1 dX9_back_40 (by decide) ?_
    refine lv_iload_n X.1 X.2.1 dX9_back_42 rfl (lv_at hl 1 rfl) ?_
    refine lv_iadd X.1 X.2.1 dX9_back_43 ?_
    obtain ⟨g_6, h⟩ := pz_gd_e h
    refine al_45 X S hn (by decide) g_6 dX9_back_44 ?_
    obtain ⟨g_7, h⟩ := pz_gd_e h
    refine as_34 X S hn (by decide) g_7 dX9_back_45 (fun J_8 H locs eJ_8 S => ?_)
    have h := pz_lt_e h eJ_8
    obtain ⟨x_9, ex_9⟩ : ∃ y : Int32, y = (a1 + (1 : Int32)) := ⟨_, rfl⟩
    have h := pz_lt_e h ex_9
    refine lv_iinc (v := x_9) (lv' := [(1, .int x_9), (0, .ref (cx_b G + ly_loc 9 0))]) X.1 X.2.1 dX9_back_46 hl (k := 1) rfl (by rw [ex_9]; rfl) (by decide) rfl (fun ls hl => ?_)
    refine lv_goto (tgt := 13) X.1 X.2.1 dX9_back_49 (by decide) ?_
    exact ih h S (lv_sub hl [1, 0] rfl)
def f_X9_back (N : Nat) (J : mm_T) : Option (mm_T × Int32) := if (J 9 0 52) = (-1 : Int32) then (some (J, (-3 : Int32))) else (f_X9_back_L13 N N J (0 : Int32))
set_option maxRecDepth 100000 in
set_option maxHeartbeats 4000000 in
theorem c_X9_back {l : Launch} {G : cx_T} {N n : Nat} {I J : mm_T} (hn : 144 ≤ n) {z : mm_T × Int32} (h : f_X9_back N J = some z) : ct_m l G n yX9_back cX9_back 2 (some .int) ({ frames := 0, cells := 0, slots := 0, locals := 0 }) [.ref (cx_b G + ly_loc 9 0)] I J (ct_qi G n I z.1 z.2) := by
  refine ct_en (by decide) (Nat.le_of_ble_eq_true rfl) ?_
  intro p e s m args below meth c ls X S hl
  have X : cx_ok G p s m args meth c cX9_back 2 RX9 (some .int) := X
  have hl : lv_has ls 2 [(0, .ref (cx_b G + ly_loc 9 0))] := hl
  unfold f_X9_back at h
  refine lv_aload_n X.1 X.2.1 dX9_back_0 rfl (lv_at hl 0 rfl) ?_
  refine gf_X9_68 X S hn (by decide) dX9_back_1 ?_
  refine lv_iconst (v := -1) X.1 X.2.1 dX9_back_4 (by decide) ?_
  refine lv_icmp_ne (tgt := 11) X.1 X.2.1 dX9_back_5 (by decide) (fun c_1 => ?_) (fun c_1 => ?_)
  · have h := pz_f c_1 h
    refine lv_iconst (v := 0) X.1 X.2.1 dX9_back_11 (by decide) ?_
    refine lv_istore_n (lv' := [(1, .int (0 : Int32)), (0, .ref (cx_b G + ly_loc 9 0))]) X.1 X.2.1 dX9_back_12 rfl hl (by decide) rfl (fun ls hl => ?_)
    exact w_X9_back_L13 X hn N h S (lv_sub hl [1, 0] rfl)
  have h := pz_t c_1 h
  refine lv_bipush (v := -3) X.1 X.2.1 dX9_back_8 (by decide) ?_
  cases h
  exact r_iret X S dX9_back_10
def f_X9_count (N : Nat) (J : mm_T) (p1 : Int32) : Option (Int32) := pz_bd (f_X9_in N (p1.toInt64) (0 : Int64) (6 : Int64)) fun q_1 => if q_1 = 0 then (some (-2 : Int32)) else (if (4 : Int32) ≤ p1 then (if p1 = (4 : Int32) then (some (J 9 0 3)) else (if p1 = (5 : Int32) then (some (J 9 0 6)) else (some (J 9 0 4)))) else (if p1 = 0 then (some (J 9 0 9)) else (if p1 = (1 : Int32) then (some (J 9 0 14)) else (if p1 = (2 : Int32) then (some ((J 9 0 15) + (99 : Int32))) else (some (J 9 0 16))))))
set_option maxRecDepth 100000 in
set_option maxHeartbeats 4000000 in
theorem c_X9_count {l : Launch} {G : cx_T} {N n : Nat} {I J : mm_T} {p1 : Int32} (hn : 144 ≤ n) {z : Int32} (h : f_X9_count N J p1 = some z) : ct_m l G n yX9_count cX9_count 2 (some .int) ({ frames := 1, cells := 0, slots := 0, locals := 25 }) [.ref (cx_b G + ly_loc 9 0), .int p1] I J (ct_qi G n I J z) := by
  refine ct_en (by decide) (Nat.le_of_ble_eq_true rfl) ?_
  intro p e s m args below meth c ls X S hl
  have X : cx_ok G p s m args meth c cX9_count 2 RX9 (some .int) := X
  have hl : lv_has ls 2 [(0, .ref (cx_b G + ly_loc 9 0)), (1, .int p1)] := hl
  unfold f_X9_count at h
  refine lv_iload_n X.1 X.2.1 dX9_count_0 rfl (lv_at hl 1 rfl) ?_
  refine lv_i2l X.1 X.2.1 dX9_count_1 rfl ?_
  refine lv_lconst (v := 0) X.1 X.2.1 dX9_count_2 (by decide) ?_
  refine lv_ldc2 (v := 6) X.1 X.2.1 X.2.2.2.1 (X.2.2.2.2.1 _ kw_X9_113) dX9_count_3 ?_
  obtain ⟨q_1, eq_1, h⟩ := pz_bd_e h
  refine r_Si X S (c_X9_in eq_1) gd_X9_94 ny_X9_in ⟨rfl, rfl⟩ ⟨Nat.le_of_ble_eq_true rfl, Nat.le_of_ble_eq_true rfl⟩ rfl rfl hl.1 (Nat.le_of_ble_eq_true rfl) dX9_count_6 (fun H locs S => ?_)
  refine lv_if_ne (tgt := 15) X.1 X.2.1 dX9_count_9 (by decide) (fun c_2 => ?_) (fun c_2 => ?_)
  · have h := pz_f c_2 h
    refine lv_iload_n X.1 X.2.1 dX9_count_15 rfl (lv_at hl 1 rfl) ?_
    refine lv_iconst (v := 4) X.1 X.2.1 dX9_count_16 (by decide) ?_
    refine lv_icmp_ge (tgt := 63) X.1 X.2.1 dX9_count_17 (by decide) (fun c_3 => ?_) (fun c_3 => ?_)
    · have h := pz_t c_3 h
      refine lv_iload_n X.1 X.2.1 dX9_count_63 rfl (lv_at hl 1 rfl) ?_
      refine lv_iconst (v := 4) X.1 X.2.1 dX9_count_64 (by decide) ?_
      refine lv_icmp_ne (tgt := 75) X.1 X.2.1 dX9_count_65 (by decide) (fun c_4 => ?_) (fun c_4 => ?_)
      · have h := pz_f c_4 h
        refine lv_iload_n X.1 X.2.1 dX9_count_75 rfl (lv_at hl 1 rfl) ?_
        refine lv_iconst (v := 5) X.1 X.2.1 dX9_count_76 (by decide) ?_
        refine lv_icmp_ne (tgt := 87) X.1 X.2.1 dX9_count_77 (by decide) (fun c_5 => ?_) (fun c_5 => ?_)
        · have h := pz_f c_5 h
          refine lv_aload_n X.1 X.2.1 dX9_count_87 rfl (lv_at hl 0 rfl) ?_
          refine gf_X9_249 X S hn (by decide) dX9_count_88 ?_
          cases h
          exact r_iret X S dX9_count_91
        have h := pz_t c_5 h
        refine lv_aload_n X.1 X.2.1 dX9_count_80 rfl (lv_at hl 0 rfl) ?_
        refine gf_X9_132 X S hn (by decide) dX9_count_81 ?_
        refine lv_goto (tgt := 91) X.1 X.2.1 dX9_count_84 (by decide) ?_
        cases h
        exact r_iret X S dX9_count_91
      have h := pz_t c_4 h
      refine lv_aload_n X.1 X.2.1 dX9_count_68 rfl (lv_at hl 0 rfl) ?_
      refine gf_X9_88 X S hn (by decide) dX9_count_69 ?_
      refine lv_goto (tgt := 91) X.1 X.2.1 dX9_count_72 (by decide) ?_
      cases h
      exact r_iret X S dX9_count_91
    have h := pz_f c_3 h
    refine lv_iload_n X.1 X.2.1 dX9_count_20 rfl (lv_at hl 1 rfl) ?_
    refine lv_if_ne (tgt := 31) X.1 X.2.1 dX9_count_21 (by decide) (fun c_6 => ?_) (fun c_6 => ?_)
    · have h := pz_f c_6 h
      refine lv_iload_n X.1 X.2.1 dX9_count_31 rfl (lv_at hl 1 rfl) ?_
      refine lv_iconst (v := 1) X.1 X.2.1 dX9_count_32 (by decide) ?_
      refine lv_icmp_ne (tgt := 43) X.1 X.2.1 dX9_count_33 (by decide) (fun c_7 => ?_) (fun c_7 => ?_)
      · have h := pz_f c_7 h
        refine lv_iload_n X.1 X.2.1 dX9_count_43 rfl (lv_at hl 1 rfl) ?_
        refine lv_iconst (v := 2) X.1 X.2.1 dX9_count_44 (by decide) ?_
        refine lv_icmp_ne (tgt := 58) X.1 X.2.1 dX9_count_45 (by decide) (fun c_8 => ?_) (fun c_8 => ?_)
        · have h := pz_f c_8 h
          refine lv_aload_n X.1 X.2.1 dX9_count_58 rfl (lv_at hl 0 rfl) ?_
          refine gf_X9_41 X S hn (by decide) dX9_count_59 ?_
          cases h
          exact r_iret X S dX9_count_62
        have h := pz_t c_8 h
        refine lv_aload_n X.1 X.2.1 dX9_count_48 rfl (lv_at hl 0 rfl) ?_
        refine gf_X9_127 X S hn (by decide) dX9_count_49 ?_
        refine lv_bipush (v := 99) X.1 X.2.1 dX9_count_52 (by decide) ?_
        refine lv_iadd X.1 X.2.1 dX9_count_54 ?_
        refine lv_goto (tgt := 62) X.1 X.2.1 dX9_count_55 (by decide) ?_
        cases h
        exact r_iret X S dX9_count_62
      have h := pz_t c_7 h
      refine lv_aload_n X.1 X.2.1 dX9_count_36 rfl (lv_at hl 0 rfl) ?_
      refine gf_X9_98 X S hn (by decide) dX9_count_37 ?_
      refine lv_goto (tgt := 62) X.1 X.2.1 dX9_count_40 (by decide) ?_
      cases h
      exact r_iret X S dX9_count_62
    have h := pz_t c_6 h
    refine lv_aload_n X.1 X.2.1 dX9_count_24 rfl (lv_at hl 0 rfl) ?_
    refine gf_X9_91 X S hn (by decide) dX9_count_25 ?_
    refine lv_goto (tgt := 62) X.1 X.2.1 dX9_count_28 (by decide) ?_
    cases h
    exact r_iret X S dX9_count_62
  have h := pz_t c_2 h
  refine lv_bipush (v := -2) X.1 X.2.1 dX9_count_12 (by decide) ?_
  cases h
  exact r_iret X S dX9_count_14
def f_X9_sheet_L77 (N : Nat) (p1 : Int32) (p2 : Int32) (p3 : Int32) : Nat → mm_T → Int32 → Int32 → Int32 → Int32 → Option (mm_T × Int32)
  | 0, _, _, _, _, _ => none
  | cnt + 1, J, a1, a2, a3, a4 => if a3 ≤ a4 then (some (J, (1 : Int32))) else (if a2 < 0 then (some (J, (1 : Int32))) else (pz_gd (ix_in (((40 : Int32) * a1) + a4) 160) <| pz_lt (mm_up J 50 0 (((40 : Int32) * a1) + a4).toNatClampNeg (0 : Int32)) fun J_19 => pz_lt (a4 + (1 : Int32)) fun x_20 => f_X9_sheet_L77 N p1 p2 p3 cnt J_19 a1 a2 a3 x_20))
set_option maxRecDepth 100000 in
set_option maxHeartbeats 4000000 in
theorem w_X9_sheet_L77 {l : Launch} {G : cx_T} {p : Program} {e : Env} {s : State} {m : MethodId} {args : Array Value} {below : List Frame} {meth : Method} {c : Code} {N n : Nat} {I : mm_T} {p1 : Int32} {p2 : Int32} {p3 : Int32} (X : cx_ok G p s m args meth c cX9_sheet 5 RX9 (some .int)) (hn : 144 ≤ n) {z : mm_T × Int32} : ∀ (cnt : Nat) {J : mm_T} {a1 : Int32} {a2 : Int32} {a3 : Int32} {a4 : Int32} {H : Heap} {locs : List Loc} {ls : Array Slot} , f_X9_sheet_L77 N p1 p2 p3 cnt J a1 a2 a3 a4 = some z → st_ok G n I J s H locs → lv_has ls 5 [(0, .ref (cx_b G + ly_loc 9 0)), (1, .int a1), (2, .int a2), (3, .int a3), (4, .int a4)] → W p l e ({ frames := 2, cells := 0, slots := 0, locals := 45 }) s m args below meth c H locs 0 0 (MQ below (ct_qi G n I z.1 z.2) args s 0 0 (cx_A G)) (F0 m 77 ls []) := by
  intro cnt
  induction cnt with
  | zero =>
    intro J a1 a2 a3 a4 H locs ls h
    rw [f_X9_sheet_L77] at h
    cases h
  | succ cnt ih =>
    intro J a1 a2 a3 a4 H locs ls h S hl
    rw [f_X9_sheet_L77] at h
    refine lv_iload X.1 X.2.1 dX9_sheet_77 (lv_at hl 4 rfl) ?_
    refine lv_iload_n X.1 X.2.1 dX9_sheet_79 rfl (lv_at hl 3 rfl) ?_
    refine lv_icmp_ge (tgt := 106) X.1 X.2.1 dX9_sheet_80 (by decide) (fun c_16 => ?_) (fun c_16 => ?_)
    · have h := pz_t c_16 h
      refine lv_iconst (v := 1) X.1 X.2.1 dX9_sheet_106 (by decide) ?_
      cases h
      exact r_iret X S dX9_sheet_107
    have h := pz_f c_16 h
    refine lv_iload_n X.1 X.2.1 dX9_sheet_83 rfl (lv_at hl 2 rfl) ?_
    refine lv_if_lt (tgt := 106) X.1 X.2.1 dX9_sheet_84 (by decide) (fun c_17 => ?_) (fun c_17 => ?_)
    · have h := pz_t c_17 h
      refine lv_iconst (v := 1) X.1 X.2.1 dX9_sheet_106 (by decide) ?_
      cases h
      exact r_iret X S dX9_sheet_107
    have h := pz_f c_17 h
    refine lv_aload_n X.1 X.2.1 dX9_sheet_87 rfl (lv_at hl 0 rfl) ?_
    refine gf_X9_81 X S hn (by decide) dX9_sheet_88 ?_
    refine lv_bipush (v := 40) X.1 X.2.1 dX9_sheet_91 (by decide) ?_
    refine lv_iload_n X.1 X.2.1 dX9_sheet_93 rfl (lv_at hl 1 rfl) ?_
    refine lv_imul X.1 X.2.1 dX9_sheet_94 ?_
    refine lv_iload X.1 X.2.1 dX9_sheet_95 (lv_at hl 4 rfl) ?_
    refine lv_iadd X.1 X.2.1 dX9_sheet_97 ?_
    refine lv_iconst (v := 0) X.1 X.2.1 dX9_sheet_98 (by decide) ?_
    obtain ⟨g_18, h⟩ := pz_gd_e h
    refine as_50 X S hn (by decide) g_18 dX9_sheet_99 (fun J_19 H locs eJ_19 S => ?_)
    have h := pz_lt_e h eJ_19
    obtain ⟨x_20, ex_20⟩ : ∃ y : Int32, y = (a4 + (1 : Int32)) := ⟨_, rfl⟩
    have h := pz_lt_e h ex_20
    refine lv_iinc (v := x_20) (lv' := [(4, .int x_20), (0, .ref (cx_b G + ly_loc 9 0)), (1, .int a1), (2, .int a2), (3, .int a3)]) X.1 X.2.1 dX9_sheet_100 hl (k := 4) rfl (by rw [ex_20]; rfl) (by decide) rfl (fun ls hl => ?_)
    refine lv_goto (tgt := 77) X.1 X.2.1 dX9_sheet_103 (by decide) ?_
    exact ih h S (lv_sub hl [1, 2, 3, 4, 0] rfl)
def f_X9_sheet_L59 (N : Nat) (p1 : Int32) (p2 : Int32) (p3 : Int32) (J : mm_T) (a1 : Int32) (a2 : Int32) (a3 : Int32) (s0 : Int32) (s1 : Int32) : Option (mm_T × Int32) := pz_gd (ix_in s1 4) <| pz_lt (mm_up J 47 0 s1.toNatClampNeg (vp_nar .boolean s0)) fun J_11 => pz_gd (ix_in a1 4) <| pz_lt (mm_up J_11 48 0 a1.toNatClampNeg a2) fun J_13 => pz_gd (ix_in a1 4) <| pz_lt (mm_up J_13 49 0 a1.toNatClampNeg a3) fun J_15 => f_X9_sheet_L77 N p1 p2 p3 N J_15 a1 a2 a3 (0 : Int32)
set_option maxRecDepth 100000 in
set_option maxHeartbeats 4000000 in
theorem w_X9_sheet_L59 {l : Launch} {G : cx_T} {p : Program} {e : Env} {s : State} {m : MethodId} {args : Array Value} {below : List Frame} {meth : Method} {c : Code} {N n : Nat} {I : mm_T} {p1 : Int32} {p2 : Int32} {p3 : Int32} (X : cx_ok G p s m args meth c cX9_sheet 5 RX9 (some .int)) (hn : 144 ≤ n) {z : mm_T × Int32} {J : mm_T} {a1 : Int32} {a2 : Int32} {a3 : Int32} {s0 : Int32} {s1 : Int32} {H : Heap} {locs : List Loc} {ls : Array Slot} (h : f_X9_sheet_L59 N p1 p2 p3 J a1 a2 a3 s0 s1 = some z) (S : st_ok G n I J s H locs) (hl : lv_has ls 5 [(0, .ref (cx_b G + ly_loc 9 0)), (1, .int a1), (2, .int a2), (3, .int a3)]) : W p l e ({ frames := 2, cells := 0, slots := 0, locals := 45 }) s m args below meth c H locs 0 0 (MQ below (ct_qi G n I z.1 z.2) args s 0 0 (cx_A G)) (F0 m 59 ls [.int s0, .int s1, .ref (cx_b G + ly_loc 47 0)]) := by
  unfold f_X9_sheet_L59 at h
  obtain ⟨g_10, h⟩ := pz_gd_e h
  refine as_47 X S hn (by decide) g_10 dX9_sheet_59 (fun J_11 H locs eJ_11 S => ?_)
  have h := pz_lt_e h eJ_11
  refine lv_aload_n X.1 X.2.1 dX9_sheet_60 rfl (lv_at hl 0 rfl) ?_
  refine gf_X9_75 X S hn (by decide) dX9_sheet_61 ?_
  refine lv_iload_n X.1 X.2.1 dX9_sheet_64 rfl (lv_at hl 1 rfl) ?_
  refine lv_iload_n X.1 X.2.1 dX9_sheet_65 rfl (lv_at hl 2 rfl) ?_
  obtain ⟨g_12, h⟩ := pz_gd_e h
  refine as_48 X S hn (by decide) g_12 dX9_sheet_66 (fun J_13 H locs eJ_13 S => ?_)
  have h := pz_lt_e h eJ_13
  refine lv_aload_n X.1 X.2.1 dX9_sheet_67 rfl (lv_at hl 0 rfl) ?_
  refine gf_X9_78 X S hn (by decide) dX9_sheet_68 ?_
  refine lv_iload_n X.1 X.2.1 dX9_sheet_71 rfl (lv_at hl 1 rfl) ?_
  refine lv_iload_n X.1 X.2.1 dX9_sheet_72 rfl (lv_at hl 3 rfl) ?_
  obtain ⟨g_14, h⟩ := pz_gd_e h
  refine as_49 X S hn (by decide) g_14 dX9_sheet_73 (fun J_15 H locs eJ_15 S => ?_)
  have h := pz_lt_e h eJ_15
  refine lv_iconst (v := 0) X.1 X.2.1 dX9_sheet_74 (by decide) ?_
  refine lv_istore (lv' := [(4, .int (0 : Int32)), (0, .ref (cx_b G + ly_loc 9 0)), (1, .int a1), (2, .int a2), (3, .int a3)]) X.1 X.2.1 dX9_sheet_75 hl (by decide) rfl (fun ls hl => ?_)
  exact w_X9_sheet_L77 X hn N h S (lv_sub hl [1, 2, 3, 4, 0] rfl)
def f_X9_sheet_L45 (N : Nat) (p1 : Int32) (p2 : Int32) (p3 : Int32) (J : mm_T) (a1 : Int32) (a2 : Int32) (a3 : Int32) : Option (mm_T × Int32) := if a2 < 0 then (f_X9_sheet_L59 N p1 p2 p3 J a1 a2 a3 (0 : Int32) a1) else (f_X9_sheet_L59 N p1 p2 p3 J a1 a2 a3 (1 : Int32) a1)
set_option maxRecDepth 100000 in
set_option maxHeartbeats 4000000 in
theorem w_X9_sheet_L45 {l : Launch} {G : cx_T} {p : Program} {e : Env} {s : State} {m : MethodId} {args : Array Value} {below : List Frame} {meth : Method} {c : Code} {N n : Nat} {I : mm_T} {p1 : Int32} {p2 : Int32} {p3 : Int32} (X : cx_ok G p s m args meth c cX9_sheet 5 RX9 (some .int)) (hn : 144 ≤ n) {z : mm_T × Int32} {J : mm_T} {a1 : Int32} {a2 : Int32} {a3 : Int32} {H : Heap} {locs : List Loc} {ls : Array Slot} (h : f_X9_sheet_L45 N p1 p2 p3 J a1 a2 a3 = some z) (S : st_ok G n I J s H locs) (hl : lv_has ls 5 [(0, .ref (cx_b G + ly_loc 9 0)), (1, .int a1), (2, .int a2), (3, .int a3)]) : W p l e ({ frames := 2, cells := 0, slots := 0, locals := 45 }) s m args below meth c H locs 0 0 (MQ below (ct_qi G n I z.1 z.2) args s 0 0 (cx_A G)) (F0 m 45 ls []) := by
  unfold f_X9_sheet_L45 at h
  refine lv_aload_n X.1 X.2.1 dX9_sheet_45 rfl (lv_at hl 0 rfl) ?_
  refine gf_X9_71 X S hn (by decide) dX9_sheet_46 ?_
  refine lv_iload_n X.1 X.2.1 dX9_sheet_49 rfl (lv_at hl 1 rfl) ?_
  refine lv_iload_n X.1 X.2.1 dX9_sheet_50 rfl (lv_at hl 2 rfl) ?_
  refine lv_if_lt (tgt := 58) X.1 X.2.1 dX9_sheet_51 (by decide) (fun c_9 => ?_) (fun c_9 => ?_)
  · have h := pz_t c_9 h
    refine lv_iconst (v := 0) X.1 X.2.1 dX9_sheet_58 (by decide) ?_
    exact w_X9_sheet_L59 X hn h S (lv_sub hl [0, 1, 2, 3] rfl)
  have h := pz_f c_9 h
  refine lv_iconst (v := 1) X.1 X.2.1 dX9_sheet_54 (by decide) ?_
  refine lv_goto (tgt := 59) X.1 X.2.1 dX9_sheet_55 (by decide) ?_
  exact w_X9_sheet_L59 X hn h S (lv_sub hl [0, 1, 2, 3] rfl)
def f_X9_sheet_L34 (N : Nat) (p1 : Int32) (p2 : Int32) (p3 : Int32) (J : mm_T) (a1 : Int32) (a2 : Int32) (a3 : Int32) : Option (mm_T × Int32) := if a2 < 0 then (f_X9_sheet_L45 N p1 p2 p3 J a1 a2 a3) else (if 0 ≤ a3 then (f_X9_sheet_L45 N p1 p2 p3 J a1 a2 a3) else (some (J, (-14 : Int32))))
set_option maxRecDepth 100000 in
set_option maxHeartbeats 4000000 in
theorem w_X9_sheet_L34 {l : Launch} {G : cx_T} {p : Program} {e : Env} {s : State} {m : MethodId} {args : Array Value} {below : List Frame} {meth : Method} {c : Code} {N n : Nat} {I : mm_T} {p1 : Int32} {p2 : Int32} {p3 : Int32} (X : cx_ok G p s m args meth c cX9_sheet 5 RX9 (some .int)) (hn : 144 ≤ n) {z : mm_T × Int32} {J : mm_T} {a1 : Int32} {a2 : Int32} {a3 : Int32} {H : Heap} {locs : List Loc} {ls : Array Slot} (h : f_X9_sheet_L34 N p1 p2 p3 J a1 a2 a3 = some z) (S : st_ok G n I J s H locs) (hl : lv_has ls 5 [(0, .ref (cx_b G + ly_loc 9 0)), (1, .int a1), (2, .int a2), (3, .int a3)]) : W p l e ({ frames := 2, cells := 0, slots := 0, locals := 45 }) s m args below meth c H locs 0 0 (MQ below (ct_qi G n I z.1 z.2) args s 0 0 (cx_A G)) (F0 m 34 ls []) := by
  unfold f_X9_sheet_L34 at h
  refine lv_iload_n X.1 X.2.1 dX9_sheet_34 rfl (lv_at hl 2 rfl) ?_
  refine lv_if_lt (tgt := 45) X.1 X.2.1 dX9_sheet_35 (by decide) (fun c_7 => ?_) (fun c_7 => ?_)
  · have h := pz_t c_7 h
    exact w_X9_sheet_L45 X hn h S (lv_sub hl [0, 1, 2, 3] rfl)
  have h := pz_f c_7 h
  refine lv_iload_n X.1 X.2.1 dX9_sheet_38 rfl (lv_at hl 3 rfl) ?_
  refine lv_if_ge (tgt := 45) X.1 X.2.1 dX9_sheet_39 (by decide) (fun c_8 => ?_) (fun c_8 => ?_)
  · have h := pz_t c_8 h
    exact w_X9_sheet_L45 X hn h S (lv_sub hl [0, 1, 2, 3] rfl)
  have h := pz_f c_8 h
  refine lv_bipush (v := -14) X.1 X.2.1 dX9_sheet_42 (by decide) ?_
  cases h
  exact r_iret X S dX9_sheet_44
def f_X9_sheet (N : Nat) (J : mm_T) (p1 : Int32) (p2 : Int32) (p3 : Int32) : Option (mm_T × Int32) := pz_bd (f_X9_isSheet N p1) fun q_1 => if q_1 = 0 then (some (J, (-2 : Int32))) else (pz_bd (f_X9_in N (p2.toInt64) (-1 : Int64) (2 : Int64)) fun q_3 => if q_3 = 0 then (some (J, (-2 : Int32))) else (if p2 < 0 then (f_X9_sheet_L34 N p1 p2 p3 J p1 p2 p3) else (if p3 ≤ (40 : Int32) then (f_X9_sheet_L34 N p1 p2 p3 J p1 p2 p3) else (some (J, (-2 : Int32))))))
set_option maxRecDepth 100000 in
set_option maxHeartbeats 4000000 in
theorem c_X9_sheet {l : Launch} {G : cx_T} {N n : Nat} {I J : mm_T} {p1 : Int32} {p2 : Int32} {p3 : Int32} (hn : 144 ≤ n) {z : mm_T × Int32} (h : f_X9_sheet N J p1 p2 p3 = some z) : ct_m l G n yX9_sheet cX9_sheet 5 (some .int) ({ frames := 2, cells := 0, slots := 0, locals := 45 }) [.ref (cx_b G + ly_loc 9 0), .int p1, .int p2, .int p3] I J (ct_qi G n I z.1 z.2) := by
  refine ct_en (by decide) (Nat.le_of_ble_eq_true rfl) ?_
  intro p e s m args below meth c ls X S hl
  have X : cx_ok G p s m args meth c cX9_sheet 5 RX9 (some .int) := X
  have hl : lv_has ls 5 [(0, .ref (cx_b G + ly_loc 9 0)), (1, .int p1), (2, .int p2), (3, .int p3)] := hl
  unfold f_X9_sheet at h
  refine lv_iload_n X.1 X.2.1 dX9_sheet_0 rfl (lv_at hl 1 rfl) ?_
  obtain ⟨q_1, eq_1, h⟩ := pz_bd_e h
  refine r_Si X S (c_X9_isSheet eq_1) gd_X9_354 ny_X9_isSheet ⟨rfl, rfl⟩ ⟨Nat.le_of_ble_eq_true rfl, Nat.le_of_ble_eq_true rfl⟩ rfl rfl hl.1 (Nat.le_of_ble_eq_true rfl) dX9_sheet_1 (fun H locs S => ?_)
  refine lv_if_eq (tgt := 31) X.1 X.2.1 dX9_sheet_4 (by decide) (fun c_2 => ?_) (fun c_2 => ?_)
  · have h := pz_t c_2 h
    refine lv_bipush (v := -2) X.1 X.2.1 dX9_sheet_31 (by decide) ?_
    cases h
    exact r_iret X S dX9_sheet_33
  have h := pz_f c_2 h
  refine lv_iload_n X.1 X.2.1 dX9_sheet_7 rfl (lv_at hl 2 rfl) ?_
  refine lv_i2l X.1 X.2.1 dX9_sheet_8 rfl ?_
  refine lv_ldc2 (v := -1) X.1 X.2.1 X.2.2.2.1 (X.2.2.2.2.1 _ kw_X9_383) dX9_sheet_9 ?_
  refine lv_ldc2 (v := 2) X.1 X.2.1 X.2.2.2.1 (X.2.2.2.2.1 _ kw_X9_115) dX9_sheet_12 ?_
  obtain ⟨q_3, eq_3, h⟩ := pz_bd_e h
  refine r_Si X S (c_X9_in eq_3) gd_X9_94 ny_X9_in ⟨rfl, rfl⟩ ⟨Nat.le_of_ble_eq_true rfl, Nat.le_of_ble_eq_true rfl⟩ rfl rfl hl.1 (Nat.le_of_ble_eq_true rfl) dX9_sheet_15 (fun H locs S => ?_)
  refine lv_if_eq (tgt := 31) X.1 X.2.1 dX9_sheet_18 (by decide) (fun c_4 => ?_) (fun c_4 => ?_)
  · have h := pz_t c_4 h
    refine lv_bipush (v := -2) X.1 X.2.1 dX9_sheet_31 (by decide) ?_
    cases h
    exact r_iret X S dX9_sheet_33
  have h := pz_f c_4 h
  refine lv_iload_n X.1 X.2.1 dX9_sheet_21 rfl (lv_at hl 2 rfl) ?_
  refine lv_if_lt (tgt := 34) X.1 X.2.1 dX9_sheet_22 (by decide) (fun c_5 => ?_) (fun c_5 => ?_)
  · have h := pz_t c_5 h
    exact w_X9_sheet_L34 X hn h S (lv_sub hl [0, 1, 2, 3] rfl)
  have h := pz_f c_5 h
  refine lv_iload_n X.1 X.2.1 dX9_sheet_25 rfl (lv_at hl 3 rfl) ?_
  refine lv_bipush (v := 40) X.1 X.2.1 dX9_sheet_26 (by decide) ?_
  refine lv_icmp_le (tgt := 34) X.1 X.2.1 dX9_sheet_28 (by decide) (fun c_6 => ?_) (fun c_6 => ?_)
  · have h := pz_t c_6 h
    exact w_X9_sheet_L34 X hn h S (lv_sub hl [0, 1, 2, 3] rfl)
  have h := pz_f c_6 h
  refine lv_bipush (v := -2) X.1 X.2.1 dX9_sheet_31 (by decide) ?_
  cases h
  exact r_iret X S dX9_sheet_33
def f_X9_cell (N : Nat) (J : mm_T) (p1 : Int32) (p2 : Int32) (p3 : Int32) : Option (mm_T × Int32) := pz_bd (f_X9_isSheet N p1) fun q_1 => if q_1 = 0 then (some (J, (-2 : Int32))) else (pz_gd (ix_in p1 4) <| if (J 47 0 p1.toNatClampNeg) = 0 then (some (J, (-11 : Int32))) else (pz_gd (ix_in p1 4) <| pz_bd (f_X9_in N (p2.toInt64) (0 : Int64) (((J 49 0 p1.toNatClampNeg) - (1 : Int32)).toInt64)) fun q_6 => if q_6 = 0 then (some (J, (-12 : Int32))) else (pz_gd (ix_in p1 4) <| if (J 48 0 p1.toNatClampNeg) = 0 then (pz_gd (ix_in (((40 : Int32) * p1) + p2) 160) <| pz_lt (mm_up J 50 0 (((40 : Int32) * p1) + p2).toNatClampNeg (p3.toInt8.toInt32)) fun J_17 => some (J_17, (1 : Int32))) else (pz_gd (ix_in p1 4) <| if (J 48 0 p1.toNatClampNeg) = (1 : Int32) then (pz_gd (ix_in (((40 : Int32) * p1) + p2) 160) <| pz_lt (mm_up J 50 0 (((40 : Int32) * p1) + p2).toNatClampNeg (p3.toInt16.toInt32)) fun J_15 => some (J_15, (1 : Int32))) else (pz_gd (ix_in (((40 : Int32) * p1) + p2) 160) <| pz_lt (mm_up J 50 0 (((40 : Int32) * p1) + p2).toNatClampNeg p3) fun J_13 => some (J_13, (1 : Int32)))))))
set_option maxRecDepth 100000 in
set_option maxHeartbeats 4000000 in
theorem c_X9_cell {l : Launch} {G : cx_T} {N n : Nat} {I J : mm_T} {p1 : Int32} {p2 : Int32} {p3 : Int32} (hn : 144 ≤ n) {z : mm_T × Int32} (h : f_X9_cell N J p1 p2 p3 = some z) : ct_m l G n yX9_cell cX9_cell 4 (some .int) ({ frames := 2, cells := 0, slots := 0, locals := 45 }) [.ref (cx_b G + ly_loc 9 0), .int p1, .int p2, .int p3] I J (ct_qi G n I z.1 z.2) := by
  refine ct_en (by decide) (Nat.le_of_ble_eq_true rfl) ?_
  intro p e s m args below meth c ls X S hl
  have X : cx_ok G p s m args meth c cX9_cell 4 RX9 (some .int) := X
  have hl : lv_has ls 4 [(0, .ref (cx_b G + ly_loc 9 0)), (1, .int p1), (2, .int p2), (3, .int p3)] := hl
  unfold f_X9_cell at h
  refine lv_iload_n X.1 X.2.1 dX9_cell_0 rfl (lv_at hl 1 rfl) ?_
  obtain ⟨q_1, eq_1, h⟩ := pz_bd_e h
  refine r_Si X S (c_X9_isSheet eq_1) gd_X9_354 ny_X9_isSheet ⟨rfl, rfl⟩ ⟨Nat.le_of_ble_eq_true rfl, Nat.le_of_ble_eq_true rfl⟩ rfl rfl hl.1 (Nat.le_of_ble_eq_true rfl) dX9_cell_1 (fun H locs S => ?_)
  refine lv_if_ne (tgt := 10) X.1 X.2.1 dX9_cell_4 (by decide) (fun c_2 => ?_) (fun c_2 => ?_)
  · have h := pz_f c_2 h
    refine lv_aload_n X.1 X.2.1 dX9_cell_10 rfl (lv_at hl 0 rfl) ?_
    refine gf_X9_71 X S hn (by decide) dX9_cell_11 ?_
    refine lv_iload_n X.1 X.2.1 dX9_cell_14 rfl (lv_at hl 1 rfl) ?_
    obtain ⟨g_3, h⟩ := pz_gd_e h
    refine al_47 X S hn (by decide) g_3 dX9_cell_15 ?_
    refine lv_if_ne (tgt := 22) X.1 X.2.1 dX9_cell_16 (by decide) (fun c_4 => ?_) (fun c_4 => ?_)
    · have h := pz_f c_4 h
      refine lv_iload_n X.1 X.2.1 dX9_cell_22 rfl (lv_at hl 2 rfl) ?_
      refine lv_i2l X.1 X.2.1 dX9_cell_23 rfl ?_
      refine lv_lconst (v := 0) X.1 X.2.1 dX9_cell_24 (by decide) ?_
      refine lv_aload_n X.1 X.2.1 dX9_cell_25 rfl (lv_at hl 0 rfl) ?_
      refine gf_X9_78 X S hn (by decide) dX9_cell_26 ?_
      refine lv_iload_n X.1 X.2.1 dX9_cell_29 rfl (lv_at hl 1 rfl) ?_
      obtain ⟨g_5, h⟩ := pz_gd_e h
      refine al_49 X S hn (by decide) g_5 dX9_cell_30 ?_
      refine lv_iconst (v := 1) X.1 X.2.1 dX9_cell_31 (by decide) ?_
      refine lv_isub X.1 X.2.1 dX9_cell_32 ?_
      refine lv_i2l X.1 X.2.1 dX9_cell_33 rfl ?_
      obtain ⟨q_6, eq_6, h⟩ := pz_bd_e h
      refine r_Si X S (c_X9_in eq_6) gd_X9_94 ny_X9_in ⟨rfl, rfl⟩ ⟨Nat.le_of_ble_eq_true rfl, Nat.le_of_ble_eq_true rfl⟩ rfl rfl hl.1 (Nat.le_of_ble_eq_true rfl) dX9_cell_34 (fun H locs S => ?_)
      refine lv_if_ne (tgt := 43) X.1 X.2.1 dX9_cell_37 (by decide) (fun c_7 => ?_) (fun c_7 => ?_)
      · have h := pz_f c_7 h
        refine lv_aload_n X.1 X.2.1 dX9_cell_43 rfl (lv_at hl 0 rfl) ?_
        refine gf_X9_81 X S hn (by decide) dX9_cell_44 ?_
        refine lv_bipush (v := 40) X.1 X.2.1 dX9_cell_47 (by decide) ?_
        refine lv_iload_n X.1 X.2.1 dX9_cell_49 rfl (lv_at hl 1 rfl) ?_
        refine lv_imul X.1 X.2.1 dX9_cell_50 ?_
        refine lv_iload_n X.1 X.2.1 dX9_cell_51 rfl (lv_at hl 2 rfl) ?_
        refine lv_iadd X.1 X.2.1 dX9_cell_52 ?_
        refine lv_aload_n X.1 X.2.1 dX9_cell_53 rfl (lv_at hl 0 rfl) ?_
        refine gf_X9_75 X S hn (by decide) dX9_cell_54 ?_
        refine lv_iload_n X.1 X.2.1 dX9_cell_57 rfl (lv_at hl 1 rfl) ?_
        obtain ⟨g_8, h⟩ := pz_gd_e h
        refine al_48 X S hn (by decide) g_8 dX9_cell_58 ?_
        refine lv_if_ne (tgt := 67) X.1 X.2.1 dX9_cell_59 (by decide) (fun c_9 => ?_) (fun c_9 => ?_)
        · have h := pz_f c_9 h
          refine lv_aload_n X.1 X.2.1 dX9_cell_67 rfl (lv_at hl 0 rfl) ?_
          refine gf_X9_75 X S hn (by decide) dX9_cell_68 ?_
          refine lv_iload_n X.1 X.2.1 dX9_cell_71 rfl (lv_at hl 1 rfl) ?_
          obtain ⟨g_10, h⟩ := pz_gd_e h
          refine al_48 X S hn (by decide) g_10 dX9_cell_72 ?_
          refine lv_iconst (v := 1) X.1 X.2.1 dX9_cell_73 (by decide) ?_
          refine lv_icmp_ne (tgt := 82) X.1 X.2.1 dX9_cell_74 (by decide) (fun c_11 => ?_) (fun c_11 => ?_)
          · have h := pz_f c_11 h
            refine lv_iload_n X.1 X.2.1 dX9_cell_82 rfl (lv_at hl 3 rfl) ?_
            obtain ⟨g_12, h⟩ := pz_gd_e h
            refine as_50 X S hn (by decide) g_12 dX9_cell_83 (fun J_13 H locs eJ_13 S => ?_)
            have h := pz_lt_e h eJ_13
            refine lv_iconst (v := 1) X.1 X.2.1 dX9_cell_84 (by decide) ?_
            cases h
            exact r_iret X S dX9_cell_85
          have h := pz_t c_11 h
          refine lv_iload_n X.1 X.2.1 dX9_cell_77 rfl (lv_at hl 3 rfl) ?_
          refine lv_i2s X.1 X.2.1 dX9_cell_78 rfl ?_
          refine lv_goto (tgt := 83) X.1 X.2.1 dX9_cell_79 (by decide) ?_
          obtain ⟨g_14, h⟩ := pz_gd_e h
          refine as_50 X S hn (by decide) g_14 dX9_cell_83 (fun J_15 H locs eJ_15 S => ?_)
          have h := pz_lt_e h eJ_15
          refine lv_iconst (v := 1) X.1 X.2.1 dX9_cell_84 (by decide) ?_
          cases h
          exact r_iret X S dX9_cell_85
        have h := pz_t c_9 h
        refine lv_iload_n X.1 X.2.1 dX9_cell_62 rfl (lv_at hl 3 rfl) ?_
        refine lv_i2b X.1 X.2.1 dX9_cell_63 rfl ?_
        refine lv_goto (tgt := 83) X.1 X.2.1 dX9_cell_64 (by decide) ?_
        obtain ⟨g_16, h⟩ := pz_gd_e h
        refine as_50 X S hn (by decide) g_16 dX9_cell_83 (fun J_17 H locs eJ_17 S => ?_)
        have h := pz_lt_e h eJ_17
        refine lv_iconst (v := 1) X.1 X.2.1 dX9_cell_84 (by decide) ?_
        cases h
        exact r_iret X S dX9_cell_85
      have h := pz_t c_7 h
      refine lv_bipush (v := -12) X.1 X.2.1 dX9_cell_40 (by decide) ?_
      cases h
      exact r_iret X S dX9_cell_42
    have h := pz_t c_4 h
    refine lv_bipush (v := -11) X.1 X.2.1 dX9_cell_19 (by decide) ?_
    cases h
    exact r_iret X S dX9_cell_21
  have h := pz_t c_2 h
  refine lv_bipush (v := -2) X.1 X.2.1 dX9_cell_7 (by decide) ?_
  cases h
  exact r_iret X S dX9_cell_9
def f_X9_copy_L145 (N : Nat) (p1 : Int32) (p2 : Int32) (p3 : Int32) (p4 : Int32) (p5 : Int32) (k121 : mm_T → Int32 → Int32 → Int32 → Int32 → Int32 → Int32 → Int32 → Option (mm_T × Int32)) (J : mm_T) (a1 : Int32) (a2 : Int32) (a3 : Int32) (a4 : Int32) (a5 : Int32) (a6 : Int32) (a7 : Int32) (s0 : Int32) : Option (mm_T × Int32) := pz_gd (ix_in ((((40 : Int32) * a1) + a2) + s0) 160) <| pz_gd (ix_in ((((40 : Int32) * a3) + a4) + s0) 160) <| pz_lt (mm_up J 50 0 ((((40 : Int32) * a3) + a4) + s0).toNatClampNeg (J 50 0 ((((40 : Int32) * a1) + a2) + s0).toNatClampNeg)) fun J_25 => pz_lt (a7 + (1 : Int32)) fun x_26 => k121 J_25 a1 a2 a3 a4 a5 a6 x_26
set_option maxRecDepth 100000 in
set_option maxHeartbeats 4000000 in
theorem w_X9_copy_L145 {l : Launch} {G : cx_T} {p : Program} {e : Env} {s : State} {m : MethodId} {args : Array Value} {below : List Frame} {meth : Method} {c : Code} {N n : Nat} {I : mm_T} {p1 : Int32} {p2 : Int32} {p3 : Int32} {p4 : Int32} {p5 : Int32} (X : cx_ok G p s m args meth c cX9_copy 9 RX9 (some .int)) (hn : 144 ≤ n) {k121 : mm_T → Int32 → Int32 → Int32 → Int32 → Int32 → Int32 → Int32 → Option (mm_T × Int32)} {z : mm_T × Int32} (K121 : ∀ {J : mm_T} {a1 : Int32} {a2 : Int32} {a3 : Int32} {a4 : Int32} {a5 : Int32} {a6 : Int32} {a7 : Int32} {H : Heap} {locs : List Loc} {ls : Array Slot}, k121 J a1 a2 a3 a4 a5 a6 a7 = some z → st_ok G n I J s H locs → lv_has ls 9 [(0, .ref (cx_b G + ly_loc 9 0)), (1, .int a1), (2, .int a2), (3, .int a3), (4, .int a4), (5, .int a5), (6, .int a6), (7, .int a7)] → W p l e ({ frames := 2, cells := 0, slots := 0, locals := 45 }) s m args below meth c H locs 0 0 (MQ below (ct_qi G n I z.1 z.2) args s 0 0 (cx_A G)) (F0 m 121 ls [])) {J : mm_T} {a1 : Int32} {a2 : Int32} {a3 : Int32} {a4 : Int32} {a5 : Int32} {a6 : Int32} {a7 : Int32} {s0 : Int32} {H : Heap} {locs : List Loc} {ls : Array Slot} (h : f_X9_copy_L145 N p1 p2 p3 p4 p5 k121 J a1 a2 a3 a4 a5 a6 a7 s0 = some z) (S : st_ok G n I J s H locs) (hl : lv_has ls 9 [(0, .ref (cx_b G + ly_loc 9 0)), (1, .int a1), (2, .int a2), (3, .int a3), (4, .int a4), (5, .int a5), (6, .int a6), (7, .int a7)]) : W p l e ({ frames := 2, cells := 0, slots := 0, locals := 45 }) s m args below meth c H locs 0 0 (MQ below (ct_qi G n I z.1 z.2) args s 0 0 (cx_A G)) (F0 m 145 ls [.int s0]) := by
  unfold f_X9_copy_L145 at h
  refine lv_istore (lv' := [(8, .int s0), (0, .ref (cx_b G + ly_loc 9 0)), (1, .int a1), (2, .int a2), (3, .int a3), (4, .int a4), (5, .int a5), (6, .int a6), (7, .int a7)]) X.1 X.2.1 dX9_copy_145 hl (by decide) rfl (fun ls hl => ?_)
  refine lv_aload_n X.1 X.2.1 dX9_copy_147 rfl (lv_at hl 1 rfl) ?_
  refine gf_X9_81 X S hn (by decide) dX9_copy_148 ?_
  refine lv_bipush (v := 40) X.1 X.2.1 dX9_copy_151 (by decide) ?_
  refine lv_iload_n X.1 X.2.1 dX9_copy_153 rfl (lv_at hl 4 rfl) ?_
  refine lv_imul X.1 X.2.1 dX9_copy_154 ?_
  refine lv_iload X.1 X.2.1 dX9_copy_155 (lv_at hl 5 rfl) ?_
  refine lv_iadd X.1 X.2.1 dX9_copy_157 ?_
  refine lv_iload X.1 X.2.1 dX9_copy_158 (lv_at hl 0 rfl) ?_
  refine lv_iadd X.1 X.2.1 dX9_copy_160 ?_
  refine lv_aload_n X.1 X.2.1 dX9_copy_161 rfl (lv_at hl 1 rfl) ?_
  refine gf_X9_81 X S hn (by decide) dX9_copy_162 ?_
  refine lv_bipush (v := 40) X.1 X.2.1 dX9_copy_165 (by decide) ?_
  refine lv_iload_n X.1 X.2.1 dX9_copy_167 rfl (lv_at hl 2 rfl) ?_
  refine lv_imul X.1 X.2.1 dX9_copy_168 ?_
  refine lv_iload_n X.1 X.2.1 dX9_copy_169 rfl (lv_at hl 3 rfl) ?_
  refine lv_iadd X.1 X.2.1 dX9_copy_170 ?_
  refine lv_iload X.1 X.2.1 dX9_copy_171 (lv_at hl 0 rfl) ?_
  refine lv_iadd X.1 X.2.1 dX9_copy_173 ?_
  obtain ⟨g_23, h⟩ := pz_gd_e h
  refine al_50 X S hn (by decide) g_23 dX9_copy_174 ?_
  obtain ⟨g_24, h⟩ := pz_gd_e h
  refine as_50 X S hn (by decide) g_24 dX9_copy_175 (fun J_25 H locs eJ_25 S => ?_)
  have h := pz_lt_e h eJ_25
  obtain ⟨x_26, ex_26⟩ : ∃ y : Int32, y = (a7 + (1 : Int32)) := ⟨_, rfl⟩
  have h := pz_lt_e h ex_26
  refine lv_iinc (v := x_26) (lv' := [(7, .int x_26), (8, .int s0), (0, .ref (cx_b G + ly_loc 9 0)), (1, .int a1), (2, .int a2), (3, .int a3), (4, .int a4), (5, .int a5), (6, .int a6)]) X.1 X.2.1 dX9_copy_176 hl (k := 8) rfl (by rw [ex_26]; rfl) (by decide) rfl (fun ls hl => ?_)
  refine lv_goto (tgt := 121) X.1 X.2.1 dX9_copy_179 (by decide) ?_
  exact K121 h S (lv_sub hl [2, 3, 4, 5, 6, 7, 8, 0] rfl)
def f_X9_copy_L121 (N : Nat) (p1 : Int32) (p2 : Int32) (p3 : Int32) (p4 : Int32) (p5 : Int32) : Nat → mm_T → Int32 → Int32 → Int32 → Int32 → Int32 → Int32 → Int32 → Option (mm_T × Int32)
  | 0, _, _, _, _, _, _, _, _ => none
  | cnt + 1, J, a1, a2, a3, a4, a5, a6, a7 => if a5 ≤ a7 then (some (J, a5)) else (if a6 = 0 then (f_X9_copy_L145 N p1 p2 p3 p4 p5 (f_X9_copy_L121 N p1 p2 p3 p4 p5 cnt) J a1 a2 a3 a4 a5 a6 a7 a7) else (f_X9_copy_L145 N p1 p2 p3 p4 p5 (f_X9_copy_L121 N p1 p2 p3 p4 p5 cnt) J a1 a2 a3 a4 a5 a6 a7 ((a5 - (1 : Int32)) - a7)))
set_option maxRecDepth 100000 in
set_option maxHeartbeats 4000000 in
theorem w_X9_copy_L121 {l : Launch} {G : cx_T} {p : Program} {e : Env} {s : State} {m : MethodId} {args : Array Value} {below : List Frame} {meth : Method} {c : Code} {N n : Nat} {I : mm_T} {p1 : Int32} {p2 : Int32} {p3 : Int32} {p4 : Int32} {p5 : Int32} (X : cx_ok G p s m args meth c cX9_copy 9 RX9 (some .int)) (hn : 144 ≤ n) {z : mm_T × Int32} : ∀ (cnt : Nat) {J : mm_T} {a1 : Int32} {a2 : Int32} {a3 : Int32} {a4 : Int32} {a5 : Int32} {a6 : Int32} {a7 : Int32} {H : Heap} {locs : List Loc} {ls : Array Slot} , f_X9_copy_L121 N p1 p2 p3 p4 p5 cnt J a1 a2 a3 a4 a5 a6 a7 = some z → st_ok G n I J s H locs → lv_has ls 9 [(0, .ref (cx_b G + ly_loc 9 0)), (1, .int a1), (2, .int a2), (3, .int a3), (4, .int a4), (5, .int a5), (6, .int a6), (7, .int a7)] → W p l e ({ frames := 2, cells := 0, slots := 0, locals := 45 }) s m args below meth c H locs 0 0 (MQ below (ct_qi G n I z.1 z.2) args s 0 0 (cx_A G)) (F0 m 121 ls []) := by
  intro cnt
  induction cnt with
  | zero =>
    intro J a1 a2 a3 a4 a5 a6 a7 H locs ls h
    rw [f_X9_copy_L121] at h
    cases h
  | succ cnt ih =>
    intro J a1 a2 a3 a4 a5 a6 a7 H locs ls h S hl
    rw [f_X9_copy_L121] at h
    refine lv_iload X.1 X.2.1 dX9_copy_121 (lv_at hl 7 rfl) ?_
    refine lv_iload X.1 X.2.1 dX9_copy_123 (lv_at hl 5 rfl) ?_
    refine lv_icmp_ge (tgt := 182) X.1 X.2.1 dX9_copy_125 (by decide) (fun c_21 => ?_) (fun c_21 => ?_)
    · have h := pz_t c_21 h
      refine lv_iload X.1 X.2.1 dX9_copy_182 (lv_at hl 5 rfl) ?_
      cases h
      exact r_iret X S dX9_copy_184
    have h := pz_f c_21 h
    refine lv_iload X.1 X.2.1 dX9_copy_128 (lv_at hl 6 rfl) ?_
    refine lv_if_eq (tgt := 143) X.1 X.2.1 dX9_copy_130 (by decide) (fun c_22 => ?_) (fun c_22 => ?_)
    · have h := pz_t c_22 h
      refine lv_iload X.1 X.2.1 dX9_copy_143 (lv_at hl 7 rfl) ?_
      exact w_X9_copy_L145 X hn ih h S (lv_sub hl [0, 1, 2, 3, 4, 5, 6, 7] rfl)
    have h := pz_f c_22 h
    refine lv_iload X.1 X.2.1 dX9_copy_133 (lv_at hl 5 rfl) ?_
    refine lv_iconst (v := 1) X.1 X.2.1 dX9_copy_135 (by decide) ?_
    refine lv_isub X.1 X.2.1 dX9_copy_136 ?_
    refine lv_iload X.1 X.2.1 dX9_copy_137 (lv_at hl 7 rfl) ?_
    refine lv_isub X.1 X.2.1 dX9_copy_139 ?_
    refine lv_goto (tgt := 145) X.1 X.2.1 dX9_copy_140 (by decide) ?_
    exact w_X9_copy_L145 X hn ih h S (lv_sub hl [0, 1, 2, 3, 4, 5, 6, 7] rfl)
def f_X9_copy_L116 (N : Nat) (p1 : Int32) (p2 : Int32) (p3 : Int32) (p4 : Int32) (p5 : Int32) (J : mm_T) (a1 : Int32) (a2 : Int32) (a3 : Int32) (a4 : Int32) (a5 : Int32) (s0 : Int32) : Option (mm_T × Int32) := f_X9_copy_L121 N p1 p2 p3 p4 p5 N J a1 a2 a3 a4 a5 s0 (0 : Int32)
set_option maxRecDepth 100000 in
set_option maxHeartbeats 4000000 in
theorem w_X9_copy_L116 {l : Launch} {G : cx_T} {p : Program} {e : Env} {s : State} {m : MethodId} {args : Array Value} {below : List Frame} {meth : Method} {c : Code} {N n : Nat} {I : mm_T} {p1 : Int32} {p2 : Int32} {p3 : Int32} {p4 : Int32} {p5 : Int32} (X : cx_ok G p s m args meth c cX9_copy 9 RX9 (some .int)) (hn : 144 ≤ n) {z : mm_T × Int32} {J : mm_T} {a1 : Int32} {a2 : Int32} {a3 : Int32} {a4 : Int32} {a5 : Int32} {s0 : Int32} {H : Heap} {locs : List Loc} {ls : Array Slot} (h : f_X9_copy_L116 N p1 p2 p3 p4 p5 J a1 a2 a3 a4 a5 s0 = some z) (S : st_ok G n I J s H locs) (hl : lv_has ls 9 [(0, .ref (cx_b G + ly_loc 9 0)), (1, .int a1), (2, .int a2), (3, .int a3), (4, .int a4), (5, .int a5)]) : W p l e ({ frames := 2, cells := 0, slots := 0, locals := 45 }) s m args below meth c H locs 0 0 (MQ below (ct_qi G n I z.1 z.2) args s 0 0 (cx_A G)) (F0 m 116 ls [.int s0]) := by
  unfold f_X9_copy_L116 at h
  refine lv_istore (lv' := [(6, .int s0), (0, .ref (cx_b G + ly_loc 9 0)), (1, .int a1), (2, .int a2), (3, .int a3), (4, .int a4), (5, .int a5)]) X.1 X.2.1 dX9_copy_116 hl (by decide) rfl (fun ls hl => ?_)
  refine lv_iconst (v := 0) X.1 X.2.1 dX9_copy_118 (by decide) ?_
  refine lv_istore (lv' := [(7, .int (0 : Int32)), (6, .int s0), (0, .ref (cx_b G + ly_loc 9 0)), (1, .int a1), (2, .int a2), (3, .int a3), (4, .int a4), (5, .int a5)]) X.1 X.2.1 dX9_copy_119 hl (by decide) rfl (fun ls hl => ?_)
  exact w_X9_copy_L121 X hn N h S (lv_sub hl [2, 3, 4, 5, 6, 7, 1, 0] rfl)
def f_X9_copy_L115 (N : Nat) (p1 : Int32) (p2 : Int32) (p3 : Int32) (p4 : Int32) (p5 : Int32) (J : mm_T) (a1 : Int32) (a2 : Int32) (a3 : Int32) (a4 : Int32) (a5 : Int32) : Option (mm_T × Int32) := f_X9_copy_L116 N p1 p2 p3 p4 p5 J a1 a2 a3 a4 a5 (0 : Int32)
set_option maxRecDepth 100000 in
set_option maxHeartbeats 4000000 in
theorem w_X9_copy_L115 {l : Launch} {G : cx_T} {p : Program} {e : Env} {s : State} {m : MethodId} {args : Array Value} {below : List Frame} {meth : Method} {c : Code} {N n : Nat} {I : mm_T} {p1 : Int32} {p2 : Int32} {p3 : Int32} {p4 : Int32} {p5 : Int32} (X : cx_ok G p s m args meth c cX9_copy 9 RX9 (some .int)) (hn : 144 ≤ n) {z : mm_T × Int32} {J : mm_T} {a1 : Int32} {a2 : Int32} {a3 : Int32} {a4 : Int32} {a5 : Int32} {H : Heap} {locs : List Loc} {ls : Array Slot} (h : f_X9_copy_L115 N p1 p2 p3 p4 p5 J a1 a2 a3 a4 a5 = some z) (S : st_ok G n I J s H locs) (hl : lv_has ls 9 [(0, .ref (cx_b G + ly_loc 9 0)), (1, .int a1), (2, .int a2), (3, .int a3), (4, .int a4), (5, .int a5)]) : W p l e ({ frames := 2, cells := 0, slots := 0, locals := 45 }) s m args below meth c H locs 0 0 (MQ below (ct_qi G n I z.1 z.2) args s 0 0 (cx_A G)) (F0 m 115 ls []) := by
  unfold f_X9_copy_L115 at h
  refine lv_iconst (v := 0) X.1 X.2.1 dX9_copy_115 (by decide) ?_
  exact w_X9_copy_L116 X hn h S (lv_sub hl [0, 1, 2, 3, 4, 5] rfl)
def f_X9_copy (N : Nat) (J : mm_T) (p1 : Int32) (p2 : Int32) (p3 : Int32) (p4 : Int32) (p5 : Int32) : Option (mm_T × Int32) := pz_bd (f_X9_isSheet N p1) fun q_1 => if q_1 = 0 then (some (J, (-2 : Int32))) else (pz_bd (f_X9_isSheet N p3) fun q_3 => if q_3 = 0 then (some (J, (-2 : Int32))) else (pz_gd (ix_in p1 4) <| if (J 47 0 p1.toNatClampNeg) = 0 then (some (J, (-11 : Int32))) else (pz_gd (ix_in p3 4) <| if (J 47 0 p3.toNatClampNeg) = 0 then (some (J, (-11 : Int32))) else (pz_gd (ix_in p1 4) <| pz_gd (ix_in p3 4) <| if (J 48 0 p1.toNatClampNeg) = (J 48 0 p3.toNatClampNeg) then (if p5 < 0 then (some (J, (-12 : Int32))) else (if p2 < 0 then (some (J, (-12 : Int32))) else (if p4 < 0 then (some (J, (-12 : Int32))) else (pz_gd (ix_in p1 4) <| if ((J 49 0 p1.toNatClampNeg) - p5) < p2 then (some (J, (-12 : Int32))) else (pz_gd (ix_in p3 4) <| if p4 ≤ ((J 49 0 p3.toNatClampNeg) - p5) then (if p1 = p3 then (if p4 ≤ p2 then (f_X9_copy_L115 N p1 p2 p3 p4 p5 J p1 p2 p3 p4 p5) else (f_X9_copy_L116 N p1 p2 p3 p4 p5 J p1 p2 p3 p4 p5 (1 : Int32))) else (f_X9_copy_L115 N p1 p2 p3 p4 p5 J p1 p2 p3 p4 p5)) else (some (J, (-12 : Int32)))))))) else (some (J, (-13 : Int32)))))))
set_option maxRecDepth 100000 in
set_option maxHeartbeats 4000000 in
theorem c_X9_copy {l : Launch} {G : cx_T} {N n : Nat} {I J : mm_T} {p1 : Int32} {p2 : Int32} {p3 : Int32} {p4 : Int32} {p5 : Int32} (hn : 144 ≤ n) {z : mm_T × Int32} (h : f_X9_copy N J p1 p2 p3 p4 p5 = some z) : ct_m l G n yX9_copy cX9_copy 9 (some .int) ({ frames := 2, cells := 0, slots := 0, locals := 45 }) [.ref (cx_b G + ly_loc 9 0), .int p1, .int p2, .int p3, .int p4, .int p5] I J (ct_qi G n I z.1 z.2) := by
  refine ct_en (by decide) (Nat.le_of_ble_eq_true rfl) ?_
  intro p e s m args below meth c ls X S hl
  have X : cx_ok G p s m args meth c cX9_copy 9 RX9 (some .int) := X
  have hl : lv_has ls 9 [(0, .ref (cx_b G + ly_loc 9 0)), (1, .int p1), (2, .int p2), (3, .int p3), (4, .int p4), (5, .int p5)] := hl
  unfold f_X9_copy at h
  refine lv_iload_n X.1 X.2.1 dX9_copy_0 rfl (lv_at hl 1 rfl) ?_
  obtain ⟨q_1, eq_1, h⟩ := pz_bd_e h
  refine r_Si X S (c_X9_isSheet eq_1) gd_X9_354 ny_X9_isSheet ⟨rfl, rfl⟩ ⟨Nat.le_of_ble_eq_true rfl, Nat.le_of_ble_eq_true rfl⟩ rfl rfl hl.1 (Nat.le_of_ble_eq_true rfl) dX9_copy_1 (fun H locs S => ?_)
  refine lv_if_eq (tgt := 14) X.1 X.2.1 dX9_copy_4 (by decide) (fun c_2 => ?_) (fun c_2 => ?_)
  · have h := pz_t c_2 h
    refine lv_bipush (v := -2) X.1 X.2.1 dX9_copy_14 (by decide) ?_
    cases h
    exact r_iret X S dX9_copy_16
  have h := pz_f c_2 h
  refine lv_iload_n X.1 X.2.1 dX9_copy_7 rfl (lv_at hl 3 rfl) ?_
  obtain ⟨q_3, eq_3, h⟩ := pz_bd_e h
  refine r_Si X S (c_X9_isSheet eq_3) gd_X9_354 ny_X9_isSheet ⟨rfl, rfl⟩ ⟨Nat.le_of_ble_eq_true rfl, Nat.le_of_ble_eq_true rfl⟩ rfl rfl hl.1 (Nat.le_of_ble_eq_true rfl) dX9_copy_8 (fun H locs S => ?_)
  refine lv_if_ne (tgt := 17) X.1 X.2.1 dX9_copy_11 (by decide) (fun c_4 => ?_) (fun c_4 => ?_)
  · have h := pz_f c_4 h
    refine lv_aload_n X.1 X.2.1 dX9_copy_17 rfl (lv_at hl 0 rfl) ?_
    refine gf_X9_71 X S hn (by decide) dX9_copy_18 ?_
    refine lv_iload_n X.1 X.2.1 dX9_copy_21 rfl (lv_at hl 1 rfl) ?_
    obtain ⟨g_5, h⟩ := pz_gd_e h
    refine al_47 X S hn (by decide) g_5 dX9_copy_22 ?_
    refine lv_if_eq (tgt := 35) X.1 X.2.1 dX9_copy_23 (by decide) (fun c_6 => ?_) (fun c_6 => ?_)
    · have h := pz_t c_6 h
      refine lv_bipush (v := -11) X.1 X.2.1 dX9_copy_35 (by decide) ?_
      cases h
      exact r_iret X S dX9_copy_37
    have h := pz_f c_6 h
    refine lv_aload_n X.1 X.2.1 dX9_copy_26 rfl (lv_at hl 0 rfl) ?_
    refine gf_X9_71 X S hn (by decide) dX9_copy_27 ?_
    refine lv_iload_n X.1 X.2.1 dX9_copy_30 rfl (lv_at hl 3 rfl) ?_
    obtain ⟨g_7, h⟩ := pz_gd_e h
    refine al_47 X S hn (by decide) g_7 dX9_copy_31 ?_
    refine lv_if_ne (tgt := 38) X.1 X.2.1 dX9_copy_32 (by decide) (fun c_8 => ?_) (fun c_8 => ?_)
    · have h := pz_f c_8 h
      refine lv_aload_n X.1 X.2.1 dX9_copy_38 rfl (lv_at hl 0 rfl) ?_
      refine gf_X9_75 X S hn (by decide) dX9_copy_39 ?_
      refine lv_iload_n X.1 X.2.1 dX9_copy_42 rfl (lv_at hl 1 rfl) ?_
      obtain ⟨g_9, h⟩ := pz_gd_e h
      refine al_48 X S hn (by decide) g_9 dX9_copy_43 ?_
      refine lv_aload_n X.1 X.2.1 dX9_copy_44 rfl (lv_at hl 0 rfl) ?_
      refine gf_X9_75 X S hn (by decide) dX9_copy_45 ?_
      refine lv_iload_n X.1 X.2.1 dX9_copy_48 rfl (lv_at hl 3 rfl) ?_
      obtain ⟨g_10, h⟩ := pz_gd_e h
      refine al_48 X S hn (by decide) g_10 dX9_copy_49 ?_
      refine lv_icmp_eq (tgt := 56) X.1 X.2.1 dX9_copy_50 (by decide) (fun c_11 => ?_) (fun c_11 => ?_)
      · have h := pz_t c_11 h
        refine lv_iload X.1 X.2.1 dX9_copy_56 (lv_at hl 5 rfl) ?_
        refine lv_if_lt (tgt := 97) X.1 X.2.1 dX9_copy_58 (by decide) (fun c_12 => ?_) (fun c_12 => ?_)
        · have h := pz_t c_12 h
          refine lv_bipush (v := -12) X.1 X.2.1 dX9_copy_97 (by decide) ?_
          cases h
          exact r_iret X S dX9_copy_99
        have h := pz_f c_12 h
        refine lv_iload_n X.1 X.2.1 dX9_copy_61 rfl (lv_at hl 2 rfl) ?_
        refine lv_if_lt (tgt := 97) X.1 X.2.1 dX9_copy_62 (by decide) (fun c_13 => ?_) (fun c_13 => ?_)
        · have h := pz_t c_13 h
          refine lv_bipush (v := -12) X.1 X.2.1 dX9_copy_97 (by decide) ?_
          cases h
          exact r_iret X S dX9_copy_99
        have h := pz_f c_13 h
        refine lv_iload X.1 X.2.1 dX9_copy_65 (lv_at hl 4 rfl) ?_
        refine lv_if_lt (tgt := 97) X.1 X.2.1 dX9_copy_67 (by decide) (fun c_14 => ?_) (fun c_14 => ?_)
        · have h := pz_t c_14 h
          refine lv_bipush (v := -12) X.1 X.2.1 dX9_copy_97 (by decide) ?_
          cases h
          exact r_iret X S dX9_copy_99
        have h := pz_f c_14 h
        refine lv_iload_n X.1 X.2.1 dX9_copy_70 rfl (lv_at hl 2 rfl) ?_
        refine lv_aload_n X.1 X.2.1 dX9_copy_71 rfl (lv_at hl 0 rfl) ?_
        refine gf_X9_78 X S hn (by decide) dX9_copy_72 ?_
        refine lv_iload_n X.1 X.2.1 dX9_copy_75 rfl (lv_at hl 1 rfl) ?_
        obtain ⟨g_15, h⟩ := pz_gd_e h
        refine al_49 X S hn (by decide) g_15 dX9_copy_76 ?_
        refine lv_iload X.1 X.2.1 dX9_copy_77 (lv_at hl 5 rfl) ?_
        refine lv_isub X.1 X.2.1 dX9_copy_79 ?_
        refine lv_icmp_gt (tgt := 97) X.1 X.2.1 dX9_copy_80 (by decide) (fun c_16 => ?_) (fun c_16 => ?_)
        · have h := pz_t c_16 h
          refine lv_bipush (v := -12) X.1 X.2.1 dX9_copy_97 (by decide) ?_
          cases h
          exact r_iret X S dX9_copy_99
        have h := pz_f c_16 h
        refine lv_iload X.1 X.2.1 dX9_copy_83 (lv_at hl 4 rfl) ?_
        refine lv_aload_n X.1 X.2.1 dX9_copy_85 rfl (lv_at hl 0 rfl) ?_
        refine gf_X9_78 X S hn (by decide) dX9_copy_86 ?_
        refine lv_iload_n X.1 X.2.1 dX9_copy_89 rfl (lv_at hl 3 rfl) ?_
        obtain ⟨g_17, h⟩ := pz_gd_e h
        refine al_49 X S hn (by decide) g_17 dX9_copy_90 ?_
        refine lv_iload X.1 X.2.1 dX9_copy_91 (lv_at hl 5 rfl) ?_
        refine lv_isub X.1 X.2.1 dX9_copy_93 ?_
        refine lv_icmp_le (tgt := 100) X.1 X.2.1 dX9_copy_94 (by decide) (fun c_18 => ?_) (fun c_18 => ?_)
        · have h := pz_t c_18 h
          refine lv_iload_n X.1 X.2.1 dX9_copy_100 rfl (lv_at hl 1 rfl) ?_
          refine lv_iload_n X.1 X.2.1 dX9_copy_101 rfl (lv_at hl 3 rfl) ?_
          refine lv_icmp_ne (tgt := 115) X.1 X.2.1 dX9_copy_102 (by decide) (fun c_19 => ?_) (fun c_19 => ?_)
          · have h := pz_f c_19 h
            exact w_X9_copy_L115 X hn h S (lv_sub hl [0, 1, 2, 3, 4, 5] rfl)
          have h := pz_t c_19 h
          refine lv_iload_n X.1 X.2.1 dX9_copy_105 rfl (lv_at hl 2 rfl) ?_
          refine lv_iload X.1 X.2.1 dX9_copy_106 (lv_at hl 4 rfl) ?_
          refine lv_icmp_ge (tgt := 115) X.1 X.2.1 dX9_copy_108 (by decide) (fun c_20 => ?_) (fun c_20 => ?_)
          · have h := pz_t c_20 h
            exact w_X9_copy_L115 X hn h S (lv_sub hl [0, 1, 2, 3, 4, 5] rfl)
          have h := pz_f c_20 h
          refine lv_iconst (v := 1) X.1 X.2.1 dX9_copy_111 (by decide) ?_
          refine lv_goto (tgt := 116) X.1 X.2.1 dX9_copy_112 (by decide) ?_
          exact w_X9_copy_L116 X hn h S (lv_sub hl [0, 1, 2, 3, 4, 5] rfl)
        have h := pz_f c_18 h
        refine lv_bipush (v := -12) X.1 X.2.1 dX9_copy_97 (by decide) ?_
        cases h
        exact r_iret X S dX9_copy_99
      have h := pz_f c_11 h
      refine lv_bipush (v := -13) X.1 X.2.1 dX9_copy_53 (by decide) ?_
      cases h
      exact r_iret X S dX9_copy_55
    have h := pz_t c_8 h
    refine lv_bipush (v := -11) X.1 X.2.1 dX9_copy_35 (by decide) ?_
    cases h
    exact r_iret X S dX9_copy_37
  have h := pz_t c_4 h
  refine lv_bipush (v := -2) X.1 X.2.1 dX9_copy_14 (by decide) ?_
  cases h
  exact r_iret X S dX9_copy_16
def f_X9_slips_L158 (N : Nat) (p1 : Int32) (p2 : Int32) (p3 : Int32) (p4 : Int32) (k75 : mm_T → Int32 → Int32 → Int32 → Int32 → Int32 → Option (mm_T × Int32)) (J : mm_T) (a1 : Int32) (a3 : Int32) (a4 : Int32) (a6 : Int32) (s0 : Int32) (s1 : Int32) : Option (mm_T × Int32) := pz_lt (s1 + s0) fun x_23 => pz_lt (a6 + (1 : Int32)) fun x_24 => k75 J a1 a3 a4 x_23 x_24
set_option maxRecDepth 100000 in
set_option maxHeartbeats 4000000 in
theorem w_X9_slips_L158 {l : Launch} {G : cx_T} {p : Program} {e : Env} {s : State} {m : MethodId} {args : Array Value} {below : List Frame} {meth : Method} {c : Code} {N n : Nat} {I : mm_T} {p1 : Int32} {p2 : Int32} {p3 : Int32} {p4 : Int32} (X : cx_ok G p s m args meth c cX9_slips 8 RX9 (some .int)) (hn : 144 ≤ n) {k75 : mm_T → Int32 → Int32 → Int32 → Int32 → Int32 → Option (mm_T × Int32)} {z : mm_T × Int32} (K75 : ∀ {J : mm_T} {a1 : Int32} {a3 : Int32} {a4 : Int32} {a5 : Int32} {a6 : Int32} {H : Heap} {locs : List Loc} {ls : Array Slot}, k75 J a1 a3 a4 a5 a6 = some z → st_ok G n I J s H locs → lv_has ls 8 [(0, .ref (cx_b G + ly_loc 9 0)), (1, .int a1), (3, .int a3), (4, .int a4), (5, .int a5), (6, .int a6)] → W p l e ({ frames := 3, cells := 0, slots := 0, locals := 69 }) s m args below meth c H locs 0 0 (MQ below (ct_qi G n I z.1 z.2) args s 0 0 (cx_A G)) (F0 m 75 ls [])) {J : mm_T} {a1 : Int32} {a3 : Int32} {a4 : Int32} {a6 : Int32} {s0 : Int32} {s1 : Int32} {H : Heap} {locs : List Loc} {ls : Array Slot} (h : f_X9_slips_L158 N p1 p2 p3 p4 k75 J a1 a3 a4 a6 s0 s1 = some z) (S : st_ok G n I J s H locs) (hl : lv_has ls 8 [(0, .ref (cx_b G + ly_loc 9 0)), (1, .int a1), (3, .int a3), (4, .int a4), (6, .int a6)]) : W p l e ({ frames := 3, cells := 0, slots := 0, locals := 69 }) s m args below meth c H locs 0 0 (MQ below (ct_qi G n I z.1 z.2) args s 0 0 (cx_A G)) (F0 m 158 ls [.int s0, .int s1]) := by
  unfold f_X9_slips_L158 at h
  refine lv_iadd X.1 X.2.1 dX9_slips_158 ?_
  refine lv_topi (fun x_23 ex_23 => ?_)
  have h := pz_lt_e h ex_23
  refine lv_istore (lv' := [(5, .int x_23), (0, .ref (cx_b G + ly_loc 9 0)), (1, .int a1), (3, .int a3), (4, .int a4), (6, .int a6)]) X.1 X.2.1 dX9_slips_159 hl (by decide) rfl (fun ls hl => ?_)
  obtain ⟨x_24, ex_24⟩ : ∃ y : Int32, y = (a6 + (1 : Int32)) := ⟨_, rfl⟩
  have h := pz_lt_e h ex_24
  refine lv_iinc (v := x_24) (lv' := [(6, .int x_24), (5, .int x_23), (0, .ref (cx_b G + ly_loc 9 0)), (1, .int a1), (3, .int a3), (4, .int a4)]) X.1 X.2.1 dX9_slips_161 hl (k := 5) rfl (by rw [ex_24]; rfl) (by decide) rfl (fun ls hl => ?_)
  refine lv_goto (tgt := 75) X.1 X.2.1 dX9_slips_164 (by decide) ?_
  exact K75 h S (lv_sub hl [2, 3, 4, 5, 1, 0] rfl)
def f_X9_slips_L75 (N : Nat) (p1 : Int32) (p2 : Int32) (p3 : Int32) (p4 : Int32) : Nat → mm_T → Int32 → Int32 → Int32 → Int32 → Int32 → Option (mm_T × Int32)
  | 0, _, _, _, _, _, _ => none
  | cnt + 1, J, a1, a3, a4, a5, a6 => if a4 ≤ a6 then (some (J, a5)) else (if a3 < 0 then (some (J, (-12 : Int32))) else (pz_gd (ix_in a1 4) <| if a3 ≤ (((J 49 0 a1.toNatClampNeg) - ((3 : Int32) * a6)) - (3 : Int32)) then (pz_lt ((((40 : Int32) * a1) + a3) + ((3 : Int32) * a6)) fun x_17 => pz_gd (ix_in x_17 160) <| pz_gd (ix_in (x_17 + (1 : Int32)) 160) <| pz_gd (ix_in (x_17 + (2 : Int32)) 160) <| pz_bd (f_X9_slip N J (J 50 0 x_17.toNatClampNeg) (J 50 0 (x_17 + (1 : Int32)).toNatClampNeg) (J 50 0 (x_17 + (2 : Int32)).toNatClampNeg)) fun q_21 => if q_21.2 < 0 then (f_X9_slips_L158 N p1 p2 p3 p4 (f_X9_slips_L75 N p1 p2 p3 p4 cnt) q_21.1 a1 a3 a4 a6 (0 : Int32) a5) else (f_X9_slips_L158 N p1 p2 p3 p4 (f_X9_slips_L75 N p1 p2 p3 p4 cnt) q_21.1 a1 a3 a4 a6 (1 : Int32) a5)) else (some (J, (-12 : Int32)))))
set_option maxRecDepth 100000 in
set_option maxHeartbeats 4000000 in
theorem w_X9_slips_L75 {l : Launch} {G : cx_T} {p : Program} {e : Env} {s : State} {m : MethodId} {args : Array Value} {below : List Frame} {meth : Method} {c : Code} {N n : Nat} {I : mm_T} {p1 : Int32} {p2 : Int32} {p3 : Int32} {p4 : Int32} (X : cx_ok G p s m args meth c cX9_slips 8 RX9 (some .int)) (hn : 144 ≤ n) {z : mm_T × Int32} : ∀ (cnt : Nat) {J : mm_T} {a1 : Int32} {a3 : Int32} {a4 : Int32} {a5 : Int32} {a6 : Int32} {H : Heap} {locs : List Loc} {ls : Array Slot} , f_X9_slips_L75 N p1 p2 p3 p4 cnt J a1 a3 a4 a5 a6 = some z → st_ok G n I J s H locs → lv_has ls 8 [(0, .ref (cx_b G + ly_loc 9 0)), (1, .int a1), (3, .int a3), (4, .int a4), (5, .int a5), (6, .int a6)] → W p l e ({ frames := 3, cells := 0, slots := 0, locals := 69 }) s m args below meth c H locs 0 0 (MQ below (ct_qi G n I z.1 z.2) args s 0 0 (cx_A G)) (F0 m 75 ls []) := by
  intro cnt
  induction cnt with
  | zero =>
    intro J a1 a3 a4 a5 a6 H locs ls h
    rw [f_X9_slips_L75] at h
    cases h
  | succ cnt ih =>
    intro J a1 a3 a4 a5 a6 H locs ls h S hl
    rw [f_X9_slips_L75] at h
    refine lv_iload X.1 X.2.1 dX9_slips_75 (lv_at hl 5 rfl) ?_
    refine lv_iload X.1 X.2.1 dX9_slips_77 (lv_at hl 3 rfl) ?_
    refine lv_icmp_ge (tgt := 167) X.1 X.2.1 dX9_slips_79 (by decide) (fun c_13 => ?_) (fun c_13 => ?_)
    · have h := pz_t c_13 h
      refine lv_iload X.1 X.2.1 dX9_slips_167 (lv_at hl 4 rfl) ?_
      cases h
      exact r_iret X S dX9_slips_169
    have h := pz_f c_13 h
    refine lv_iload_n X.1 X.2.1 dX9_slips_82 rfl (lv_at hl 2 rfl) ?_
    refine lv_if_lt (tgt := 103) X.1 X.2.1 dX9_slips_83 (by decide) (fun c_14 => ?_) (fun c_14 => ?_)
    · have h := pz_t c_14 h
      refine lv_bipush (v := -12) X.1 X.2.1 dX9_slips_103 (by decide) ?_
      cases h
      exact r_iret X S dX9_slips_105
    have h := pz_f c_14 h
    refine lv_iload_n X.1 X.2.1 dX9_slips_86 rfl (lv_at hl 2 rfl) ?_
    refine lv_aload_n X.1 X.2.1 dX9_slips_87 rfl (lv_at hl 0 rfl) ?_
    refine gf_X9_78 X S hn (by decide) dX9_slips_88 ?_
    refine lv_iload_n X.1 X.2.1 dX9_slips_91 rfl (lv_at hl 1 rfl) ?_
    obtain ⟨g_15, h⟩ := pz_gd_e h
    refine al_49 X S hn (by decide) g_15 dX9_slips_92 ?_
    refine lv_iconst (v := 3) X.1 X.2.1 dX9_slips_93 (by decide) ?_
    refine lv_iload X.1 X.2.1 dX9_slips_94 (lv_at hl 5 rfl) ?_
    refine lv_imul X.1 X.2.1 dX9_slips_96 ?_
    refine lv_isub X.1 X.2.1 dX9_slips_97 ?_
    refine lv_iconst (v := 3) X.1 X.2.1 dX9_slips_98 (by decide) ?_
    refine lv_isub X.1 X.2.1 dX9_slips_99 ?_
    refine lv_icmp_le (tgt := 106) X.1 X.2.1 dX9_slips_100 (by decide) (fun c_16 => ?_) (fun c_16 => ?_)
    · have h := pz_t c_16 h
      refine lv_bipush (v := 40) X.1 X.2.1 dX9_slips_106 (by decide) ?_
      refine lv_iload_n X.1 X.2.1 dX9_slips_108 rfl (lv_at hl 1 rfl) ?_
      refine lv_imul X.1 X.2.1 dX9_slips_109 ?_
      refine lv_iload_n X.1 X.2.1 dX9_slips_110 rfl (lv_at hl 2 rfl) ?_
      refine lv_iadd X.1 X.2.1 dX9_slips_111 ?_
      refine lv_iconst (v := 3) X.1 X.2.1 dX9_slips_112 (by decide) ?_
      refine lv_iload X.1 X.2.1 dX9_slips_113 (lv_at hl 5 rfl) ?_
      refine lv_imul X.1 X.2.1 dX9_slips_115 ?_
      refine lv_iadd X.1 X.2.1 dX9_slips_116 ?_
      refine lv_topi (fun x_17 ex_17 => ?_)
      have h := pz_lt_e h ex_17
      refine lv_istore (lv' := [(7, .int x_17), (0, .ref (cx_b G + ly_loc 9 0)), (1, .int a1), (3, .int a3), (4, .int a4), (5, .int a5), (6, .int a6)]) X.1 X.2.1 dX9_slips_117 hl (by decide) rfl (fun ls hl => ?_)
      refine lv_iload X.1 X.2.1 dX9_slips_119 (lv_at hl 5 rfl) ?_
      refine lv_aload_n X.1 X.2.1 dX9_slips_121 rfl (lv_at hl 1 rfl) ?_
      refine lv_aload_n X.1 X.2.1 dX9_slips_122 rfl (lv_at hl 1 rfl) ?_
      refine gf_X9_81 X S hn (by decide) dX9_slips_123 ?_
      refine lv_iload X.1 X.2.1 dX9_slips_126 (lv_at hl 0 rfl) ?_
      obtain ⟨g_18, h⟩ := pz_gd_e h
      refine al_50 X S hn (by decide) g_18 dX9_slips_128 ?_
      refine lv_aload_n X.1 X.2.1 dX9_slips_129 rfl (lv_at hl 1 rfl) ?_
      refine gf_X9_81 X S hn (by decide) dX9_slips_130 ?_
      refine lv_iload X.1 X.2.1 dX9_slips_133 (lv_at hl 0 rfl) ?_
      refine lv_iconst (v := 1) X.1 X.2.1 dX9_slips_135 (by decide) ?_
      refine lv_iadd X.1 X.2.1 dX9_slips_136 ?_
      obtain ⟨g_19, h⟩ := pz_gd_e h
      refine al_50 X S hn (by decide) g_19 dX9_slips_137 ?_
      refine lv_aload_n X.1 X.2.1 dX9_slips_138 rfl (lv_at hl 1 rfl) ?_
      refine gf_X9_81 X S hn (by decide) dX9_slips_139 ?_
      refine lv_iload X.1 X.2.1 dX9_slips_142 (lv_at hl 0 rfl) ?_
      refine lv_iconst (v := 2) X.1 X.2.1 dX9_slips_144 (by decide) ?_
      refine lv_iadd X.1 X.2.1 dX9_slips_145 ?_
      obtain ⟨g_20, h⟩ := pz_gd_e h
      refine al_50 X S hn (by decide) g_20 dX9_slips_146 ?_
      obtain ⟨q_21, eq_21, h⟩ := pz_bd_e h
      refine r_Vi X S (c_X9_slip hn eq_21) gd_X9_385 ⟨rfl, ny_X9_slip⟩ ⟨rfl, rfl⟩ ⟨Nat.le_of_ble_eq_true rfl, Nat.le_of_ble_eq_true rfl⟩ (r_recv X S (ly_ok_9 (by decide) hn) rfl rfl) rfl rfl hl.1 (Nat.le_of_ble_eq_true rfl) dX9_slips_147 (fun H locs S => ?_)
      refine lv_if_lt (tgt := 157) X.1 X.2.1 dX9_slips_150 (by decide) (fun c_22 => ?_) (fun c_22 => ?_)
      · have h := pz_t c_22 h
        refine lv_iconst (v := 0) X.1 X.2.1 dX9_slips_157 (by decide) ?_
        exact w_X9_slips_L158 X hn ih h S (lv_sub hl [1, 2, 3, 4, 6] rfl)
      have h := pz_f c_22 h
      refine lv_iconst (v := 1) X.1 X.2.1 dX9_slips_153 (by decide) ?_
      refine lv_goto (tgt := 158) X.1 X.2.1 dX9_slips_154 (by decide) ?_
      exact w_X9_slips_L158 X hn ih h S (lv_sub hl [1, 2, 3, 4, 6] rfl)
    have h := pz_f c_16 h
    refine lv_bipush (v := -12) X.1 X.2.1 dX9_slips_103 (by decide) ?_
    cases h
    exact r_iret X S dX9_slips_105
def f_X9_slips_L57 (N : Nat) (p1 : Int32) (p2 : Int32) (p3 : Int32) (p4 : Int32) (J : mm_T) (a1 : Int32) (a3 : Int32) (a4 : Int32) : Option (mm_T × Int32) := pz_gd (ix_in a1 4) <| if (J 47 0 a1.toNatClampNeg) = 0 then (some (J, (-11 : Int32))) else (f_X9_slips_L75 N p1 p2 p3 p4 N J a1 a3 a4 (0 : Int32) (0 : Int32))
set_option maxRecDepth 100000 in
set_option maxHeartbeats 4000000 in
theorem w_X9_slips_L57 {l : Launch} {G : cx_T} {p : Program} {e : Env} {s : State} {m : MethodId} {args : Array Value} {below : List Frame} {meth : Method} {c : Code} {N n : Nat} {I : mm_T} {p1 : Int32} {p2 : Int32} {p3 : Int32} {p4 : Int32} (X : cx_ok G p s m args meth c cX9_slips 8 RX9 (some .int)) (hn : 144 ≤ n) {z : mm_T × Int32} {J : mm_T} {a1 : Int32} {a3 : Int32} {a4 : Int32} {H : Heap} {locs : List Loc} {ls : Array Slot} (h : f_X9_slips_L57 N p1 p2 p3 p4 J a1 a3 a4 = some z) (S : st_ok G n I J s H locs) (hl : lv_has ls 8 [(0, .ref (cx_b G + ly_loc 9 0)), (1, .int a1), (3, .int a3), (4, .int a4)]) : W p l e ({ frames := 3, cells := 0, slots := 0, locals := 69 }) s m args below meth c H locs 0 0 (MQ below (ct_qi G n I z.1 z.2) args s 0 0 (cx_A G)) (F0 m 57 ls []) := by
  unfold f_X9_slips_L57 at h
  refine lv_aload_n X.1 X.2.1 dX9_slips_57 rfl (lv_at hl 0 rfl) ?_
  refine gf_X9_71 X S hn (by decide) dX9_slips_58 ?_
  refine lv_iload_n X.1 X.2.1 dX9_slips_61 rfl (lv_at hl 1 rfl) ?_
  obtain ⟨g_11, h⟩ := pz_gd_e h
  refine al_47 X S hn (by decide) g_11 dX9_slips_62 ?_
  refine lv_if_ne (tgt := 69) X.1 X.2.1 dX9_slips_63 (by decide) (fun c_12 => ?_) (fun c_12 => ?_)
  · have h := pz_f c_12 h
    refine lv_iconst (v := 0) X.1 X.2.1 dX9_slips_69 (by decide) ?_
    refine lv_istore (lv' := [(5, .int (0 : Int32)), (0, .ref (cx_b G + ly_loc 9 0)), (1, .int a1), (3, .int a3), (4, .int a4)]) X.1 X.2.1 dX9_slips_70 hl (by decide) rfl (fun ls hl => ?_)
    refine lv_iconst (v := 0) X.1 X.2.1 dX9_slips_72 (by decide) ?_
    refine lv_istore (lv' := [(6, .int (0 : Int32)), (5, .int (0 : Int32)), (0, .ref (cx_b G + ly_loc 9 0)), (1, .int a1), (3, .int a3), (4, .int a4)]) X.1 X.2.1 dX9_slips_73 hl (by decide) rfl (fun ls hl => ?_)
    exact w_X9_slips_L75 X hn N h S (lv_sub hl [2, 3, 4, 5, 1, 0] rfl)
  have h := pz_t c_12 h
  refine lv_bipush (v := -11) X.1 X.2.1 dX9_slips_66 (by decide) ?_
  cases h
  exact r_iret X S dX9_slips_68
def f_X9_slips (N : Nat) (J : mm_T) (p1 : Int32) (p2 : Int32) (p3 : Int32) (p4 : Int32) : Option (mm_T × Int32) := pz_bd (f_X9_isSheet N p1) fun q_1 => if q_1 = 0 then (some (J, (-2 : Int32))) else (pz_bd (f_X9_in N (p2.toInt64) (0 : Int64) (2 : Int64)) fun q_3 => if q_3 = 0 then (some (J, (-2 : Int32))) else (pz_bd (f_X9_in N (p4.toInt64) (0 : Int64) (7 : Int64)) fun q_5 => if q_5 = 0 then (some (J, (-2 : Int32))) else (pz_gd (ix_in p1 4) <| if (J 47 0 p1.toNatClampNeg) = 0 then (f_X9_slips_L57 N p1 p2 p3 p4 J p1 p3 p4) else (pz_gd (ix_in p1 4) <| if (J 48 0 p1.toNatClampNeg) = p2 then (f_X9_slips_L57 N p1 p2 p3 p4 J p1 p3 p4) else (some (J, (-13 : Int32)))))))
set_option maxRecDepth 100000 in
set_option maxHeartbeats 4000000 in
theorem c_X9_slips {l : Launch} {G : cx_T} {N n : Nat} {I J : mm_T} {p1 : Int32} {p2 : Int32} {p3 : Int32} {p4 : Int32} (hn : 144 ≤ n) {z : mm_T × Int32} (h : f_X9_slips N J p1 p2 p3 p4 = some z) : ct_m l G n yX9_slips cX9_slips 8 (some .int) ({ frames := 3, cells := 0, slots := 0, locals := 69 }) [.ref (cx_b G + ly_loc 9 0), .int p1, .int p2, .int p3, .int p4] I J (ct_qi G n I z.1 z.2) := by
  refine ct_en (by decide) (Nat.le_of_ble_eq_true rfl) ?_
  intro p e s m args below meth c ls X S hl
  have X : cx_ok G p s m args meth c cX9_slips 8 RX9 (some .int) := X
  have hl : lv_has ls 8 [(0, .ref (cx_b G + ly_loc 9 0)), (1, .int p1), (2, .int p2), (3, .int p3), (4, .int p4)] := hl
  unfold f_X9_slips at h
  refine lv_iload_n X.1 X.2.1 dX9_slips_0 rfl (lv_at hl 1 rfl) ?_
  obtain ⟨q_1, eq_1, h⟩ := pz_bd_e h
  refine r_Si X S (c_X9_isSheet eq_1) gd_X9_354 ny_X9_isSheet ⟨rfl, rfl⟩ ⟨Nat.le_of_ble_eq_true rfl, Nat.le_of_ble_eq_true rfl⟩ rfl rfl hl.1 (Nat.le_of_ble_eq_true rfl) dX9_slips_1 (fun H locs S => ?_)
  refine lv_if_eq (tgt := 32) X.1 X.2.1 dX9_slips_4 (by decide) (fun c_2 => ?_) (fun c_2 => ?_)
  · have h := pz_t c_2 h
    refine lv_bipush (v := -2) X.1 X.2.1 dX9_slips_32 (by decide) ?_
    cases h
    exact r_iret X S dX9_slips_34
  have h := pz_f c_2 h
  refine lv_iload_n X.1 X.2.1 dX9_slips_7 rfl (lv_at hl 2 rfl) ?_
  refine lv_i2l X.1 X.2.1 dX9_slips_8 rfl ?_
  refine lv_lconst (v := 0) X.1 X.2.1 dX9_slips_9 (by decide) ?_
  refine lv_ldc2 (v := 2) X.1 X.2.1 X.2.2.2.1 (X.2.2.2.2.1 _ kw_X9_115) dX9_slips_10 ?_
  obtain ⟨q_3, eq_3, h⟩ := pz_bd_e h
  refine r_Si X S (c_X9_in eq_3) gd_X9_94 ny_X9_in ⟨rfl, rfl⟩ ⟨Nat.le_of_ble_eq_true rfl, Nat.le_of_ble_eq_true rfl⟩ rfl rfl hl.1 (Nat.le_of_ble_eq_true rfl) dX9_slips_13 (fun H locs S => ?_)
  refine lv_if_eq (tgt := 32) X.1 X.2.1 dX9_slips_16 (by decide) (fun c_4 => ?_) (fun c_4 => ?_)
  · have h := pz_t c_4 h
    refine lv_bipush (v := -2) X.1 X.2.1 dX9_slips_32 (by decide) ?_
    cases h
    exact r_iret X S dX9_slips_34
  have h := pz_f c_4 h
  refine lv_iload X.1 X.2.1 dX9_slips_19 (lv_at hl 4 rfl) ?_
  refine lv_i2l X.1 X.2.1 dX9_slips_21 rfl ?_
  refine lv_lconst (v := 0) X.1 X.2.1 dX9_slips_22 (by decide) ?_
  refine lv_ldc2 (v := 7) X.1 X.2.1 X.2.2.2.1 (X.2.2.2.2.1 _ kw_X9_103) dX9_slips_23 ?_
  obtain ⟨q_5, eq_5, h⟩ := pz_bd_e h
  refine r_Si X S (c_X9_in eq_5) gd_X9_94 ny_X9_in ⟨rfl, rfl⟩ ⟨Nat.le_of_ble_eq_true rfl, Nat.le_of_ble_eq_true rfl⟩ rfl rfl hl.1 (Nat.le_of_ble_eq_true rfl) dX9_slips_26 (fun H locs S => ?_)
  refine lv_if_ne (tgt := 35) X.1 X.2.1 dX9_slips_29 (by decide) (fun c_6 => ?_) (fun c_6 => ?_)
  · have h := pz_f c_6 h
    refine lv_aload_n X.1 X.2.1 dX9_slips_35 rfl (lv_at hl 0 rfl) ?_
    refine gf_X9_71 X S hn (by decide) dX9_slips_36 ?_
    refine lv_iload_n X.1 X.2.1 dX9_slips_39 rfl (lv_at hl 1 rfl) ?_
    obtain ⟨g_7, h⟩ := pz_gd_e h
    refine al_47 X S hn (by decide) g_7 dX9_slips_40 ?_
    refine lv_if_eq (tgt := 57) X.1 X.2.1 dX9_slips_41 (by decide) (fun c_8 => ?_) (fun c_8 => ?_)
    · have h := pz_t c_8 h
      exact w_X9_slips_L57 X hn h S (lv_sub hl [0, 1, 3, 4] rfl)
    have h := pz_f c_8 h
    refine lv_aload_n X.1 X.2.1 dX9_slips_44 rfl (lv_at hl 0 rfl) ?_
    refine gf_X9_75 X S hn (by decide) dX9_slips_45 ?_
    refine lv_iload_n X.1 X.2.1 dX9_slips_48 rfl (lv_at hl 1 rfl) ?_
    obtain ⟨g_9, h⟩ := pz_gd_e h
    refine al_48 X S hn (by decide) g_9 dX9_slips_49 ?_
    refine lv_iload_n X.1 X.2.1 dX9_slips_50 rfl (lv_at hl 2 rfl) ?_
    refine lv_icmp_eq (tgt := 57) X.1 X.2.1 dX9_slips_51 (by decide) (fun c_10 => ?_) (fun c_10 => ?_)
    · have h := pz_t c_10 h
      exact w_X9_slips_L57 X hn h S (lv_sub hl [0, 1, 3, 4] rfl)
    have h := pz_f c_10 h
    refine lv_bipush (v := -13) X.1 X.2.1 dX9_slips_54 (by decide) ?_
    cases h
    exact r_iret X S dX9_slips_56
  have h := pz_t c_6 h
  refine lv_bipush (v := -2) X.1 X.2.1 dX9_slips_32 (by decide) ?_
  cases h
  exact r_iret X S dX9_slips_34
def f_X9_over (N : Nat) (p1 : Int32) : Option (Int32) := if p1 = 0 then (some (-1 : Int32)) else (if p1 = (3 : Int32) then (some (1 : Int32)) else (if p1 = (4 : Int32) then (some (2 : Int32)) else (if p1 = (5 : Int32) then (some (2 : Int32)) else (some (0 : Int32)))))
set_option maxRecDepth 100000 in
set_option maxHeartbeats 4000000 in
theorem c_X9_over {l : Launch} {G : cx_T} {N n : Nat} {I J : mm_T} {p1 : Int32} {z : Int32} (h : f_X9_over N p1 = some z) : ct_m l G n yX9_over cX9_over 1 (some .int) ({ frames := 0, cells := 0, slots := 0, locals := 0 }) [.int p1] I J (ct_qi G n I J z) := by
  refine ct_en (by decide) (Nat.le_of_ble_eq_true rfl) ?_
  intro p e s m args below meth c ls X S hl
  have X : cx_ok G p s m args meth c cX9_over 1 RX9 (some .int) := X
  have hl : lv_has ls 1 [(0, .int p1)] := hl
  have hn := S.2.2.2
  unfold f_X9_over at h
  refine lv_iload_n X.1 X.2.1 dX9_over_0 rfl (lv_at hl 0 rfl) ?_
  refine lv_if_ne (tgt := 8) X.1 X.2.1 dX9_over_1 (by decide) (fun c_1 => ?_) (fun c_1 => ?_)
  · have h := pz_f c_1 h
    refine lv_iload_n X.1 X.2.1 dX9_over_8 rfl (lv_at hl 0 rfl) ?_
    refine lv_iconst (v := 3) X.1 X.2.1 dX9_over_9 (by decide) ?_
    refine lv_icmp_ne (tgt := 17) X.1 X.2.1 dX9_over_10 (by decide) (fun c_2 => ?_) (fun c_2 => ?_)
    · have h := pz_f c_2 h
      refine lv_iload_n X.1 X.2.1 dX9_over_17 rfl (lv_at hl 0 rfl) ?_
      refine lv_iconst (v := 4) X.1 X.2.1 dX9_over_18 (by decide) ?_
      refine lv_icmp_eq (tgt := 27) X.1 X.2.1 dX9_over_19 (by decide) (fun c_3 => ?_) (fun c_3 => ?_)
      · have h := pz_t c_3 h
        refine lv_iconst (v := 2) X.1 X.2.1 dX9_over_27 (by decide) ?_
        refine lv_goto (tgt := 32) X.1 X.2.1 dX9_over_28 (by decide) ?_
        cases h
        exact r_iret X S dX9_over_32
      have h := pz_f c_3 h
      refine lv_iload_n X.1 X.2.1 dX9_over_22 rfl (lv_at hl 0 rfl) ?_
      refine lv_iconst (v := 5) X.1 X.2.1 dX9_over_23 (by decide) ?_
      refine lv_icmp_ne (tgt := 31) X.1 X.2.1 dX9_over_24 (by decide) (fun c_4 => ?_) (fun c_4 => ?_)
      · have h := pz_f c_4 h
        refine lv_iconst (v := 0) X.1 X.2.1 dX9_over_31 (by decide) ?_
        cases h
        exact r_iret X S dX9_over_32
      have h := pz_t c_4 h
      refine lv_iconst (v := 2) X.1 X.2.1 dX9_over_27 (by decide) ?_
      refine lv_goto (tgt := 32) X.1 X.2.1 dX9_over_28 (by decide) ?_
      cases h
      exact r_iret X S dX9_over_32
    have h := pz_t c_2 h
    refine lv_iconst (v := 1) X.1 X.2.1 dX9_over_13 (by decide) ?_
    refine lv_goto (tgt := 32) X.1 X.2.1 dX9_over_14 (by decide) ?_
    cases h
    exact r_iret X S dX9_over_32
  have h := pz_t c_1 h
  refine lv_iconst (v := -1) X.1 X.2.1 dX9_over_4 (by decide) ?_
  refine lv_goto (tgt := 32) X.1 X.2.1 dX9_over_5 (by decide) ?_
  cases h
  exact r_iret X S dX9_over_32
def f_X9_taken_L33 (N : Nat) (J : mm_T) (p1 : Int32) (p2 : Int32) : Nat → Int32 → Int32 → Int32 → Option (Int32)
  | 0, _, _, _ => none
  | cnt + 1, a1, a2, a3 => if a3 = (-1 : Int32) then (if a3 = a2 then (pz_gd (ix_in a1 7) <| some (J 36 0 a1.toNatClampNeg)) else (some (-13 : Int32))) else (if a3 = a2 then (if a3 = a2 then (pz_gd (ix_in a1 7) <| some (J 36 0 a1.toNatClampNeg)) else (some (-13 : Int32))) else (pz_bd (f_X9_over N a3) fun q_13 => f_X9_taken_L33 N J p1 p2 cnt a1 a2 q_13))
set_option maxRecDepth 100000 in
set_option maxHeartbeats 4000000 in
theorem w_X9_taken_L33 {l : Launch} {G : cx_T} {p : Program} {e : Env} {s : State} {m : MethodId} {args : Array Value} {below : List Frame} {meth : Method} {c : Code} {N n : Nat} {I J : mm_T} {p1 : Int32} {p2 : Int32} (X : cx_ok G p s m args meth c cX9_taken 4 RX9 (some .int)) (hn : 144 ≤ n) {z : Int32} : ∀ (cnt : Nat) {a1 : Int32} {a2 : Int32} {a3 : Int32} {H : Heap} {locs : List Loc} {ls : Array Slot} , f_X9_taken_L33 N J p1 p2 cnt a1 a2 a3 = some z → st_ok G n I J s H locs → lv_has ls 4 [(0, .ref (cx_b G + ly_loc 9 0)), (1, .int a1), (2, .int a2), (3, .int a3)] → W p l e ({ frames := 2, cells := 0, slots := 0, locals := 46 }) s m args below meth c H locs 0 0 (MQ below (ct_qi G n I J z) args s 0 0 (cx_A G)) (F0 m 33 ls []) := by
  intro cnt
  induction cnt with
  | zero =>
    intro a1 a2 a3 H locs ls h
    rw [f_X9_taken_L33] at h
    cases h
  | succ cnt ih =>
    intro a1 a2 a3 H locs ls h S hl
    rw [f_X9_taken_L33] at h
    refine lv_iload_n X.1 X.2.1 dX9_taken_33 rfl (lv_at hl 3 rfl) ?_
    refine lv_iconst (v := -1) X.1 X.2.1 dX9_taken_34 (by decide) ?_
    refine lv_icmp_eq (tgt := 51) X.1 X.2.1 dX9_taken_35 (by decide) (fun c_7 => ?_) (fun c_7 => ?_)
    · have h := pz_t c_7 h
      refine lv_iload_n X.1 X.2.1 dX9_taken_51 rfl (lv_at hl 3 rfl) ?_
      refine lv_iload_n X.1 X.2.1 dX9_taken_52 rfl (lv_at hl 2 rfl) ?_
      refine lv_icmp_ne (tgt := 65) X.1 X.2.1 dX9_taken_53 (by decide) (fun c_8 => ?_) (fun c_8 => ?_)
      · have h := pz_f c_8 h
        refine lv_bipush (v := -13) X.1 X.2.1 dX9_taken_65 (by decide) ?_
        cases h
        exact r_iret X S dX9_taken_67
      have h := pz_t c_8 h
      refine lv_aload_n X.1 X.2.1 dX9_taken_56 rfl (lv_at hl 0 rfl) ?_
      refine gf_X9_32 X S hn (by decide) dX9_taken_57 ?_
      refine lv_iload_n X.1 X.2.1 dX9_taken_60 rfl (lv_at hl 1 rfl) ?_
      obtain ⟨g_9, h⟩ := pz_gd_e h
      refine al_36 X S hn (by decide) g_9 dX9_taken_61 ?_
      refine lv_goto (tgt := 67) X.1 X.2.1 dX9_taken_62 (by decide) ?_
      cases h
      exact r_iret X S dX9_taken_67
    have h := pz_f c_7 h
    refine lv_iload_n X.1 X.2.1 dX9_taken_38 rfl (lv_at hl 3 rfl) ?_
    refine lv_iload_n X.1 X.2.1 dX9_taken_39 rfl (lv_at hl 2 rfl) ?_
    refine lv_icmp_eq (tgt := 51) X.1 X.2.1 dX9_taken_40 (by decide) (fun c_10 => ?_) (fun c_10 => ?_)
    · have h := pz_t c_10 h
      refine lv_iload_n X.1 X.2.1 dX9_taken_51 rfl (lv_at hl 3 rfl) ?_
      refine lv_iload_n X.1 X.2.1 dX9_taken_52 rfl (lv_at hl 2 rfl) ?_
      refine lv_icmp_ne (tgt := 65) X.1 X.2.1 dX9_taken_53 (by decide) (fun c_11 => ?_) (fun c_11 => ?_)
      · have h := pz_f c_11 h
        refine lv_bipush (v := -13) X.1 X.2.1 dX9_taken_65 (by decide) ?_
        cases h
        exact r_iret X S dX9_taken_67
      have h := pz_t c_11 h
      refine lv_aload_n X.1 X.2.1 dX9_taken_56 rfl (lv_at hl 0 rfl) ?_
      refine gf_X9_32 X S hn (by decide) dX9_taken_57 ?_
      refine lv_iload_n X.1 X.2.1 dX9_taken_60 rfl (lv_at hl 1 rfl) ?_
      obtain ⟨g_12, h⟩ := pz_gd_e h
      refine al_36 X S hn (by decide) g_12 dX9_taken_61 ?_
      refine lv_goto (tgt := 67) X.1 X.2.1 dX9_taken_62 (by decide) ?_
      cases h
      exact r_iret X S dX9_taken_67
    have h := pz_f c_10 h
    refine lv_iload_n X.1 X.2.1 dX9_taken_43 rfl (lv_at hl 3 rfl) ?_
    obtain ⟨q_13, eq_13, h⟩ := pz_bd_e h
    refine r_Si X S (c_X9_over eq_13) gd_X9_388 ny_X9_over ⟨rfl, rfl⟩ ⟨Nat.le_of_ble_eq_true rfl, Nat.le_of_ble_eq_true rfl⟩ rfl rfl hl.1 (Nat.le_of_ble_eq_true rfl) dX9_taken_44 (fun H locs S => ?_)
    refine lv_istore_n (lv' := [(3, .int q_13), (0, .ref (cx_b G + ly_loc 9 0)), (1, .int a1), (2, .int a2)]) X.1 X.2.1 dX9_taken_47 rfl hl (by decide) rfl (fun ls hl => ?_)
    refine lv_goto (tgt := 33) X.1 X.2.1 dX9_taken_48 (by decide) ?_
    exact ih h S (lv_sub hl [1, 2, 3, 0] rfl)
def f_X9_taken (N : Nat) (J : mm_T) (p1 : Int32) (p2 : Int32) : Option (Int32) := pz_bd (f_X9_in N (p2.toInt64) (0 : Int64) (5 : Int64)) fun q_1 => if q_1 = 0 then (some (-2 : Int32)) else (pz_bd (f_X9_isSlip N J p1) fun q_3 => if q_3 = 0 then (some (-11 : Int32)) else (pz_gd (ix_in p1 7) <| pz_lt (J 35 0 p1.toNatClampNeg) fun x_6 => f_X9_taken_L33 N J p1 p2 N p1 p2 x_6))
set_option maxRecDepth 100000 in
set_option maxHeartbeats 4000000 in
theorem c_X9_taken {l : Launch} {G : cx_T} {N n : Nat} {I J : mm_T} {p1 : Int32} {p2 : Int32} (hn : 144 ≤ n) {z : Int32} (h : f_X9_taken N J p1 p2 = some z) : ct_m l G n yX9_taken cX9_taken 4 (some .int) ({ frames := 2, cells := 0, slots := 0, locals := 46 }) [.ref (cx_b G + ly_loc 9 0), .int p1, .int p2] I J (ct_qi G n I J z) := by
  refine ct_en (by decide) (Nat.le_of_ble_eq_true rfl) ?_
  intro p e s m args below meth c ls X S hl
  have X : cx_ok G p s m args meth c cX9_taken 4 RX9 (some .int) := X
  have hl : lv_has ls 4 [(0, .ref (cx_b G + ly_loc 9 0)), (1, .int p1), (2, .int p2)] := hl
  unfold f_X9_taken at h
  refine lv_iload_n X.1 X.2.1 dX9_taken_0 rfl (lv_at hl 2 rfl) ?_
  refine lv_i2l X.1 X.2.1 dX9_taken_1 rfl ?_
  refine lv_lconst (v := 0) X.1 X.2.1 dX9_taken_2 (by decide) ?_
  refine lv_ldc2 (v := 5) X.1 X.2.1 X.2.2.2.1 (X.2.2.2.2.1 _ kw_X9_105) dX9_taken_3 ?_
  obtain ⟨q_1, eq_1, h⟩ := pz_bd_e h
  refine r_Si X S (c_X9_in eq_1) gd_X9_94 ny_X9_in ⟨rfl, rfl⟩ ⟨Nat.le_of_ble_eq_true rfl, Nat.le_of_ble_eq_true rfl⟩ rfl rfl hl.1 (Nat.le_of_ble_eq_true rfl) dX9_taken_6 (fun H locs S => ?_)
  refine lv_if_ne (tgt := 15) X.1 X.2.1 dX9_taken_9 (by decide) (fun c_2 => ?_) (fun c_2 => ?_)
  · have h := pz_f c_2 h
    refine lv_aload_n X.1 X.2.1 dX9_taken_15 rfl (lv_at hl 0 rfl) ?_
    refine lv_iload_n X.1 X.2.1 dX9_taken_16 rfl (lv_at hl 1 rfl) ?_
    obtain ⟨q_3, eq_3, h⟩ := pz_bd_e h
    refine r_Vi X S (c_X9_isSlip hn eq_3) gd_X9_119 ⟨rfl, ny_X9_isSlip⟩ ⟨rfl, rfl⟩ ⟨Nat.le_of_ble_eq_true rfl, Nat.le_of_ble_eq_true rfl⟩ (r_recv X S (ly_ok_9 (by decide) hn) rfl rfl) rfl rfl hl.1 (Nat.le_of_ble_eq_true rfl) dX9_taken_17 (fun H locs S => ?_)
    refine lv_if_ne (tgt := 26) X.1 X.2.1 dX9_taken_20 (by decide) (fun c_4 => ?_) (fun c_4 => ?_)
    · have h := pz_f c_4 h
      refine lv_aload_n X.1 X.2.1 dX9_taken_26 rfl (lv_at hl 0 rfl) ?_
      refine gf_X9_29 X S hn (by decide) dX9_taken_27 ?_
      refine lv_iload_n X.1 X.2.1 dX9_taken_30 rfl (lv_at hl 1 rfl) ?_
      obtain ⟨g_5, h⟩ := pz_gd_e h
      refine al_35 X S hn (by decide) g_5 dX9_taken_31 ?_
      refine lv_topi (fun x_6 ex_6 => ?_)
      have h := pz_lt_e h ex_6
      refine lv_istore_n (lv' := [(3, .int x_6), (0, .ref (cx_b G + ly_loc 9 0)), (1, .int p1), (2, .int p2)]) X.1 X.2.1 dX9_taken_32 rfl hl (by decide) rfl (fun ls hl => ?_)
      exact w_X9_taken_L33 X hn N h S (lv_sub hl [1, 2, 3, 0] rfl)
    have h := pz_t c_4 h
    refine lv_bipush (v := -11) X.1 X.2.1 dX9_taken_23 (by decide) ?_
    cases h
    exact r_iret X S dX9_taken_25
  have h := pz_t c_2 h
  refine lv_bipush (v := -2) X.1 X.2.1 dX9_taken_12 (by decide) ?_
  cases h
  exact r_iret X S dX9_taken_14
