def f_X3_add (N n : Nat) (I : mm_T) (p1 : Int32) : Option (mm_T × Int32) := if (I 3 0 1) < (160 : Int32) then (pz_gd (ix_in (I 3 0 1) 160) <| pz_lt (mm_up I 18 0 (I 3 0 1).toNatClampNeg p1) fun I_3 => pz_lt (mm_up I_3 3 0 1 ((I_3 3 0 1) + (1 : Int32))) fun I_4 => some (I_4, (1 : Int32))) else (some (I, (0 : Int32)))
set_option maxRecDepth 100000 in
set_option maxHeartbeats 4000000 in
theorem c_X3_add {l : Launch} {G : cx_T} {N n : Nat} {I J : mm_T} {p1 : Int32} {z : mm_T × Int32} (h : f_X3_add N n I p1 = some z) : ct_m l G n yX3_add cX3_add 2 (some .boolean) ({ frames := 0, cells := 0, slots := 0, locals := 0 }) [.ref (cx_b G + ly_loc 3 0), .int p1] I J (ct_qi G n z.1 J z.2) := by
  refine ct_en (by decide) (Nat.le_of_ble_eq_true rfl) ?_
  intro p e s m args below meth c ls X S hl
  have X : cx_ok G p s m args meth c cX3_add 2 RX3 (some .boolean) := X
  have hl : lv_has ls 2 [(0, .ref (cx_b G + ly_loc 3 0)), (1, .int p1)] := hl
  have hn := S.2.2.2
  unfold f_X3_add at h
  refine lv_aload_n X.1 X.2.1 dX3_add_0 rfl (lv_at hl 0 rfl) ?_
  refine gf_X3_18 X S (by decide) dX3_add_1 ?_
  refine lv_sipush (v := 160) X.1 X.2.1 dX3_add_4 (by decide) ?_
  refine lv_icmp_lt (tgt := 12) X.1 X.2.1 dX3_add_7 (by decide) (fun c_1 => ?_) (fun c_1 => ?_)
  · have h := pz_t c_1 h
    refine lv_aload_n X.1 X.2.1 dX3_add_12 rfl (lv_at hl 0 rfl) ?_
    refine gf_X3_9 X S (by decide) dX3_add_13 ?_
    refine lv_aload_n X.1 X.2.1 dX3_add_16 rfl (lv_at hl 0 rfl) ?_
    refine gf_X3_18 X S (by decide) dX3_add_17 ?_
    refine lv_iload_n X.1 X.2.1 dX3_add_20 rfl (lv_at hl 1 rfl) ?_
    obtain ⟨g_2, h⟩ := pz_gd_e h
    refine as_18 X S (by decide) g_2 dX3_add_21 (fun I_3 H locs eI_3 S => ?_)
    have h := pz_lt_e h eI_3
    refine lv_aload_n X.1 X.2.1 dX3_add_22 rfl (lv_at hl 0 rfl) ?_
    refine lv_dup X.1 X.2.1 dX3_add_23 rfl ?_
    refine gf_X3_18 X S (by decide) dX3_add_24 ?_
    refine lv_iconst (v := 1) X.1 X.2.1 dX3_add_27 (by decide) ?_
    refine lv_iadd X.1 X.2.1 dX3_add_28 ?_
    refine pf_X3_18 X S (by decide) dX3_add_29 (fun I_4 H locs eI_4 S => ?_)
    have h := pz_lt_e h eI_4
    refine lv_iconst (v := 1) X.1 X.2.1 dX3_add_32 (by decide) ?_
    cases h
    exact r_zret (v := 1) X S rfl dX3_add_33
  have h := pz_f c_1 h
  refine lv_iconst (v := 0) X.1 X.2.1 dX3_add_10 (by decide) ?_
  cases h
  exact r_zret (v := 0) X S rfl dX3_add_11
def f_X3_isLetter (N : Nat) (p1 : Int32) : Option (Int32) := if p1 < (97 : Int32) then (some (0 : Int32)) else (if (122 : Int32) < p1 then (some (0 : Int32)) else (some (1 : Int32)))
set_option maxRecDepth 100000 in
set_option maxHeartbeats 4000000 in
theorem c_X3_isLetter {l : Launch} {G : cx_T} {N n : Nat} {I J : mm_T} {p1 : Int32} {z : Int32} (h : f_X3_isLetter N p1 = some z) : ct_m l G n yX3_isLetter cX3_isLetter 1 (some .boolean) ({ frames := 0, cells := 0, slots := 0, locals := 0 }) [.int p1] I J (ct_qi G n I J z) := by
  refine ct_en (by decide) (Nat.le_of_ble_eq_true rfl) ?_
  intro p e s m args below meth c ls X S hl
  have X : cx_ok G p s m args meth c cX3_isLetter 1 RX3 (some .boolean) := X
  have hl : lv_has ls 1 [(0, .int p1)] := hl
  have hn := S.2.2.2
  unfold f_X3_isLetter at h
  refine lv_iload_n X.1 X.2.1 dX3_isLetter_0 rfl (lv_at hl 0 rfl) ?_
  refine lv_bipush (v := 97) X.1 X.2.1 dX3_isLetter_1 (by decide) ?_
  refine lv_icmp_lt (tgt := 16) X.1 X.2.1 dX3_isLetter_3 (by decide) (fun c_1 => ?_) (fun c_1 => ?_)
  · have h := pz_t c_1 h
    refine lv_iconst (v := 0) X.1 X.2.1 dX3_isLetter_16 (by decide) ?_
    cases h
    exact r_zret (v := 0) X S rfl dX3_isLetter_17
  have h := pz_f c_1 h
  refine lv_iload_n X.1 X.2.1 dX3_isLetter_6 rfl (lv_at hl 0 rfl) ?_
  refine lv_bipush (v := 122) X.1 X.2.1 dX3_isLetter_7 (by decide) ?_
  refine lv_icmp_gt (tgt := 16) X.1 X.2.1 dX3_isLetter_9 (by decide) (fun c_2 => ?_) (fun c_2 => ?_)
  · have h := pz_t c_2 h
    refine lv_iconst (v := 0) X.1 X.2.1 dX3_isLetter_16 (by decide) ?_
    cases h
    exact r_zret (v := 0) X S rfl dX3_isLetter_17
  have h := pz_f c_2 h
  refine lv_iconst (v := 1) X.1 X.2.1 dX3_isLetter_12 (by decide) ?_
  refine lv_goto (tgt := 17) X.1 X.2.1 dX3_isLetter_13 (by decide) ?_
  cases h
  exact r_zret (v := 1) X S rfl dX3_isLetter_17
def f_X3_spells_L20 (N n : Nat) (I : mm_T) (k1 : Nat) : Nat → Int32 → Option (Int32)
  | 0, _ => none
  | cnt + 1, a2 => pz_bd (f_J0_length_8abf5 N k1) fun q_3 => if q_3 ≤ a2 then (some (1 : Int32)) else (pz_gd (ix_in ((I 3 0 8) + a2) 160) <| pz_bd (f_J0_charAt_5068e N k1 a2) fun q_6 => if (I 18 0 ((I 3 0 8) + a2).toNatClampNeg) = q_6 then (pz_lt (a2 + (1 : Int32)) fun x_8 => f_X3_spells_L20 N n I k1 cnt x_8) else (some (0 : Int32)))
set_option maxRecDepth 100000 in
set_option maxHeartbeats 4000000 in
theorem w_X3_spells_L20 {l : Launch} {G : cx_T} {p : Program} {e : Env} {s : State} {m : MethodId} {args : Array Value} {below : List Frame} {meth : Method} {c : Code} {N n : Nat} {I J : mm_T} {k1 : Nat} (X : cx_ok G p s m args meth c cX3_spells 3 RX3 (some .boolean)) (hn : 111 ≤ n) (hk1 : k1 < 14) {z : Int32} : ∀ (cnt : Nat) {a2 : Int32} {H : Heap} {locs : List Loc} {ls : Array Slot} , f_X3_spells_L20 N n I k1 cnt a2 = some z → st_ok G n I J s H locs → lv_has ls 3 [(0, .ref (cx_b G + ly_loc 3 0)), (1, .ref (cx_K G k1)), (2, .int a2)] → W p l e ({ frames := 5, cells := 0, slots := 0, locals := 145 }) s m args below meth c H locs 0 0 (MQ below (ct_qi G n I J z) args s 0 0 (cx_A G)) (F0 m 20 ls []) := by
  intro cnt
  induction cnt with
  | zero =>
    intro a2 H locs ls h
    rw [f_X3_spells_L20] at h
    cases h
  | succ cnt ih =>
    intro a2 H locs ls h S hl
    rw [f_X3_spells_L20] at h
    refine lv_iload_n X.1 X.2.1 dX3_spells_20 rfl (lv_at hl 2 rfl) ?_
    refine lv_aload_n X.1 X.2.1 dX3_spells_21 rfl (lv_at hl 1 rfl) ?_
    obtain ⟨q_3, eq_3, h⟩ := pz_bd_e h
    refine r_Vi X S (c_J0_length_8abf5 hk1 eq_3) gd_X3_135 ⟨rfl, ny_J0_length_8abf5⟩ ⟨rfl, rfl⟩ ⟨Nat.le_of_ble_eq_true rfl, Nat.le_of_ble_eq_true rfl⟩ (r_srecv X S hk1) rfl rfl hl.1 (Nat.le_of_ble_eq_true rfl) dX3_spells_22 (fun H locs S => ?_)
    refine lv_icmp_ge (tgt := 55) X.1 X.2.1 dX3_spells_25 (by decide) (fun c_4 => ?_) (fun c_4 => ?_)
    · have h := pz_t c_4 h
      refine lv_iconst (v := 1) X.1 X.2.1 dX3_spells_55 (by decide) ?_
      cases h
      exact r_zret (v := 1) X S rfl dX3_spells_56
    have h := pz_f c_4 h
    refine lv_aload_n X.1 X.2.1 dX3_spells_28 rfl (lv_at hl 0 rfl) ?_
    refine gf_X3_9 X S (by decide) dX3_spells_29 ?_
    refine lv_aload_n X.1 X.2.1 dX3_spells_32 rfl (lv_at hl 0 rfl) ?_
    refine gf_X3_65 X S (by decide) dX3_spells_33 ?_
    refine lv_iload_n X.1 X.2.1 dX3_spells_36 rfl (lv_at hl 2 rfl) ?_
    refine lv_iadd X.1 X.2.1 dX3_spells_37 ?_
    obtain ⟨g_5, h⟩ := pz_gd_e h
    refine al_18 X S (by decide) g_5 dX3_spells_38 ?_
    refine lv_aload_n X.1 X.2.1 dX3_spells_39 rfl (lv_at hl 1 rfl) ?_
    refine lv_iload_n X.1 X.2.1 dX3_spells_40 rfl (lv_at hl 2 rfl) ?_
    obtain ⟨q_6, eq_6, h⟩ := pz_bd_e h
    refine r_Vi X S (c_J0_charAt_5068e hk1 eq_6) gd_X3_139 ⟨rfl, ny_J0_charAt_5068e⟩ ⟨rfl, rfl⟩ ⟨Nat.le_of_ble_eq_true rfl, Nat.le_of_ble_eq_true rfl⟩ (r_srecv X S hk1) rfl rfl hl.1 (Nat.le_of_ble_eq_true rfl) dX3_spells_41 (fun H locs S => ?_)
    refine lv_icmp_eq (tgt := 49) X.1 X.2.1 dX3_spells_44 (by decide) (fun c_7 => ?_) (fun c_7 => ?_)
    · have h := pz_t c_7 h
      obtain ⟨x_8, ex_8⟩ : ∃ y : Int32, y = (a2 + (1 : Int32)) := ⟨_, rfl⟩
      have h := pz_lt_e h ex_8
      refine lv_iinc (v := x_8) (lv' := [(2, .int x_8), (0, .ref (cx_b G + ly_loc 3 0)), (1, .ref (cx_K G k1))]) X.1 X.2.1 dX3_spells_49 hl (k := 2) rfl (by rw [ex_8]; rfl) (by decide) rfl (fun ls hl => ?_)
      refine lv_goto (tgt := 20) X.1 X.2.1 dX3_spells_52 (by decide) ?_
      exact ih h S (lv_sub hl [1, 2, 0] rfl)
    have h := pz_f c_7 h
    refine lv_iconst (v := 0) X.1 X.2.1 dX3_spells_47 (by decide) ?_
    cases h
    exact r_zret (v := 0) X S rfl dX3_spells_48
def f_X3_spells (N n : Nat) (I : mm_T) (k1 : Nat) : Option (Int32) := pz_bd (f_J0_length_8abf5 N k1) fun q_1 => if q_1 = ((I 3 0 9) - (I 3 0 8)) then (f_X3_spells_L20 N n I k1 N (0 : Int32)) else (some (0 : Int32))
set_option maxRecDepth 100000 in
set_option maxHeartbeats 4000000 in
theorem c_X3_spells {l : Launch} {G : cx_T} {N n : Nat} {I J : mm_T} {k1 : Nat} (hk1 : k1 < 14) {z : Int32} (h : f_X3_spells N n I k1 = some z) : ct_m l G n yX3_spells cX3_spells 3 (some .boolean) ({ frames := 5, cells := 0, slots := 0, locals := 145 }) [.ref (cx_b G + ly_loc 3 0), .ref (cx_K G k1)] I J (ct_qi G n I J z) := by
  refine ct_en (by decide) (Nat.le_of_ble_eq_true rfl) ?_
  intro p e s m args below meth c ls X S hl
  have X : cx_ok G p s m args meth c cX3_spells 3 RX3 (some .boolean) := X
  have hl : lv_has ls 3 [(0, .ref (cx_b G + ly_loc 3 0)), (1, .ref (cx_K G k1))] := hl
  have hn := S.2.2.2
  unfold f_X3_spells at h
  refine lv_aload_n X.1 X.2.1 dX3_spells_0 rfl (lv_at hl 1 rfl) ?_
  obtain ⟨q_1, eq_1, h⟩ := pz_bd_e h
  refine r_Vi X S (c_J0_length_8abf5 hk1 eq_1) gd_X3_135 ⟨rfl, ny_J0_length_8abf5⟩ ⟨rfl, rfl⟩ ⟨Nat.le_of_ble_eq_true rfl, Nat.le_of_ble_eq_true rfl⟩ (r_srecv X S hk1) rfl rfl hl.1 (Nat.le_of_ble_eq_true rfl) dX3_spells_1 (fun H locs S => ?_)
  refine lv_aload_n X.1 X.2.1 dX3_spells_4 rfl (lv_at hl 0 rfl) ?_
  refine gf_X3_25 X S (by decide) dX3_spells_5 ?_
  refine lv_aload_n X.1 X.2.1 dX3_spells_8 rfl (lv_at hl 0 rfl) ?_
  refine gf_X3_65 X S (by decide) dX3_spells_9 ?_
  refine lv_isub X.1 X.2.1 dX3_spells_12 ?_
  refine lv_icmp_eq (tgt := 18) X.1 X.2.1 dX3_spells_13 (by decide) (fun c_2 => ?_) (fun c_2 => ?_)
  · have h := pz_t c_2 h
    refine lv_iconst (v := 0) X.1 X.2.1 dX3_spells_18 (by decide) ?_
    refine lv_istore_n (lv' := [(2, .int (0 : Int32)), (0, .ref (cx_b G + ly_loc 3 0)), (1, .ref (cx_K G k1))]) X.1 X.2.1 dX3_spells_19 rfl hl (by decide) rfl (fun ls hl => ?_)
    exact w_X3_spells_L20 X hn hk1 N h S (lv_sub hl [1, 2, 0] rfl)
  have h := pz_f c_2 h
  refine lv_iconst (v := 0) X.1 X.2.1 dX3_spells_16 (by decide) ?_
  cases h
  exact r_zret (v := 0) X S rfl dX3_spells_17
def f_X3_readWord_L39 (N n : Nat) (I : mm_T) : Option (mm_T) := pz_bd (f_X3_spells N n I 1) fun q_6 => if q_6 = 0 then (pz_bd (f_X3_spells N n I 2) fun q_8 => if q_8 = 0 then (pz_bd (f_X3_spells N n I 3) fun q_10 => if q_10 = 0 then (pz_bd (f_X3_spells N n I 4) fun q_12 => if q_12 = 0 then (pz_bd (f_X3_spells N n I 5) fun q_14 => if q_14 = 0 then (pz_bd (f_X3_spells N n I 6) fun q_16 => if q_16 = 0 then (pz_bd (f_X3_spells N n I 7) fun q_18 => if q_18 = 0 then (pz_bd (f_X3_spells N n I 8) fun q_20 => if q_20 = 0 then (pz_bd (f_X3_spells N n I 9) fun q_22 => if q_22 = 0 then (pz_bd (f_X3_spells N n I 10) fun q_24 => if q_24 = 0 then (pz_bd (f_X3_spells N n I 11) fun q_26 => if q_26 = 0 then (pz_bd (f_X3_spells N n I 12) fun q_28 => if q_28 = 0 then (pz_lt (mm_up I 3 0 6 (2 : Int32)) fun I_30 => some I_30) else (pz_lt (mm_up I 3 0 6 (112 : Int32)) fun I_31 => some I_31)) else (pz_lt (mm_up I 3 0 6 (111 : Int32)) fun I_32 => some I_32)) else (pz_lt (mm_up I 3 0 6 (110 : Int32)) fun I_33 => some I_33)) else (pz_lt (mm_up I 3 0 6 (109 : Int32)) fun I_34 => some I_34)) else (pz_lt (mm_up I 3 0 6 (108 : Int32)) fun I_35 => some I_35)) else (pz_lt (mm_up I 3 0 6 (107 : Int32)) fun I_36 => some I_36)) else (pz_lt (mm_up I 3 0 6 (106 : Int32)) fun I_37 => some I_37)) else (pz_lt (mm_up I 3 0 6 (105 : Int32)) fun I_38 => some I_38)) else (pz_lt (mm_up I 3 0 6 (104 : Int32)) fun I_39 => some I_39)) else (pz_lt (mm_up I 3 0 6 (103 : Int32)) fun I_40 => some I_40)) else (pz_lt (mm_up I 3 0 6 (102 : Int32)) fun I_41 => some I_41)) else (pz_lt (mm_up I 3 0 6 (101 : Int32)) fun I_42 => some I_42)
set_option maxRecDepth 100000 in
set_option maxHeartbeats 4000000 in
theorem w_X3_readWord_L39 {l : Launch} {G : cx_T} {p : Program} {e : Env} {s : State} {m : MethodId} {args : Array Value} {below : List Frame} {meth : Method} {c : Code} {N n : Nat} {J : mm_T} (X : cx_ok G p s m args meth c cX3_readWord 1 RX3 none) (hn : 111 ≤ n) {z : mm_T} {I : mm_T} {H : Heap} {locs : List Loc} {ls : Array Slot} (h : f_X3_readWord_L39 N n I = some z) (S : st_ok G n I J s H locs) (hl : lv_has ls 1 [(0, .ref (cx_b G + ly_loc 3 0))]) : W p l e ({ frames := 6, cells := 0, slots := 0, locals := 167 }) s m args below meth c H locs 0 0 (MQ below (ct_qv G n z J) args s 0 0 (cx_A G)) (F0 m 39 ls []) := by
  unfold f_X3_readWord_L39 at h
  refine lv_aload_n X.1 X.2.1 dX3_readWord_39 rfl (lv_at hl 0 rfl) ?_
  refine lv_aload_n X.1 X.2.1 dX3_readWord_40 rfl (lv_at hl 0 rfl) ?_
  refine va_ldcS X.1 X.2.1 X.2.2.2.1 (sk_1 X.2.2.2.2.2.1) dX3_readWord_41 ?_
  obtain ⟨q_6, eq_6, h⟩ := pz_bd_e h
  refine r_Vi X S (c_X3_spells (by decide) eq_6) gd_X3_109 ⟨rfl, ny_X3_spells⟩ ⟨rfl, rfl⟩ ⟨Nat.le_of_ble_eq_true rfl, Nat.le_of_ble_eq_true rfl⟩ (r_recv X S (ly_ok_3 (by decide) S.2.2.2) rfl rfl) rfl rfl hl.1 (Nat.le_of_ble_eq_true rfl) dX3_readWord_43 (fun H locs S => ?_)
  refine lv_if_eq (tgt := 54) X.1 X.2.1 dX3_readWord_46 (by decide) (fun c_7 => ?_) (fun c_7 => ?_)
  · have h := pz_t c_7 h
    refine lv_aload_n X.1 X.2.1 dX3_readWord_54 rfl (lv_at hl 0 rfl) ?_
    refine va_ldcS X.1 X.2.1 X.2.2.2.1 (sk_2 X.2.2.2.2.2.1) dX3_readWord_55 ?_
    obtain ⟨q_8, eq_8, h⟩ := pz_bd_e h
    refine r_Vi X S (c_X3_spells (by decide) eq_8) gd_X3_109 ⟨rfl, ny_X3_spells⟩ ⟨rfl, rfl⟩ ⟨Nat.le_of_ble_eq_true rfl, Nat.le_of_ble_eq_true rfl⟩ (r_recv X S (ly_ok_3 (by decide) S.2.2.2) rfl rfl) rfl rfl hl.1 (Nat.le_of_ble_eq_true rfl) dX3_readWord_57 (fun H locs S => ?_)
    refine lv_if_eq (tgt := 68) X.1 X.2.1 dX3_readWord_60 (by decide) (fun c_9 => ?_) (fun c_9 => ?_)
    · have h := pz_t c_9 h
      refine lv_aload_n X.1 X.2.1 dX3_readWord_68 rfl (lv_at hl 0 rfl) ?_
      refine va_ldcS X.1 X.2.1 X.2.2.2.1 (sk_3 X.2.2.2.2.2.1) dX3_readWord_69 ?_
      obtain ⟨q_10, eq_10, h⟩ := pz_bd_e h
      refine r_Vi X S (c_X3_spells (by decide) eq_10) gd_X3_109 ⟨rfl, ny_X3_spells⟩ ⟨rfl, rfl⟩ ⟨Nat.le_of_ble_eq_true rfl, Nat.le_of_ble_eq_true rfl⟩ (r_recv X S (ly_ok_3 (by decide) S.2.2.2) rfl rfl) rfl rfl hl.1 (Nat.le_of_ble_eq_true rfl) dX3_readWord_71 (fun H locs S => ?_)
      refine lv_if_eq (tgt := 82) X.1 X.2.1 dX3_readWord_74 (by decide) (fun c_11 => ?_) (fun c_11 => ?_)
      · have h := pz_t c_11 h
        refine lv_aload_n X.1 X.2.1 dX3_readWord_82 rfl (lv_at hl 0 rfl) ?_
        refine va_ldcS X.1 X.2.1 X.2.2.2.1 (sk_4 X.2.2.2.2.2.1) dX3_readWord_83 ?_
        obtain ⟨q_12, eq_12, h⟩ := pz_bd_e h
        refine r_Vi X S (c_X3_spells (by decide) eq_12) gd_X3_109 ⟨rfl, ny_X3_spells⟩ ⟨rfl, rfl⟩ ⟨Nat.le_of_ble_eq_true rfl, Nat.le_of_ble_eq_true rfl⟩ (r_recv X S (ly_ok_3 (by decide) S.2.2.2) rfl rfl) rfl rfl hl.1 (Nat.le_of_ble_eq_true rfl) dX3_readWord_85 (fun H locs S => ?_)
        refine lv_if_eq (tgt := 96) X.1 X.2.1 dX3_readWord_88 (by decide) (fun c_13 => ?_) (fun c_13 => ?_)
        · have h := pz_t c_13 h
          refine lv_aload_n X.1 X.2.1 dX3_readWord_96 rfl (lv_at hl 0 rfl) ?_
          refine va_ldcS X.1 X.2.1 X.2.2.2.1 (sk_5 X.2.2.2.2.2.1) dX3_readWord_97 ?_
          obtain ⟨q_14, eq_14, h⟩ := pz_bd_e h
          refine r_Vi X S (c_X3_spells (by decide) eq_14) gd_X3_109 ⟨rfl, ny_X3_spells⟩ ⟨rfl, rfl⟩ ⟨Nat.le_of_ble_eq_true rfl, Nat.le_of_ble_eq_true rfl⟩ (r_recv X S (ly_ok_3 (by decide) S.2.2.2) rfl rfl) rfl rfl hl.1 (Nat.le_of_ble_eq_true rfl) dX3_readWord_99 (fun H locs S => ?_)
          refine lv_if_eq (tgt := 110) X.1 X.2.1 dX3_readWord_102 (by decide) (fun c_15 => ?_) (fun c_15 => ?_)
          · have h := pz_t c_15 h
            refine lv_aload_n X.1 X.2.1 dX3_readWord_110 rfl (lv_at hl 0 rfl) ?_
            refine va_ldcS X.1 X.2.1 X.2.2.2.1 (sk_6 X.2.2.2.2.2.1) dX3_readWord_111 ?_
            obtain ⟨q_16, eq_16, h⟩ := pz_bd_e h
            refine r_Vi X S (c_X3_spells (by decide) eq_16) gd_X3_109 ⟨rfl, ny_X3_spells⟩ ⟨rfl, rfl⟩ ⟨Nat.le_of_ble_eq_true rfl, Nat.le_of_ble_eq_true rfl⟩ (r_recv X S (ly_ok_3 (by decide) S.2.2.2) rfl rfl) rfl rfl hl.1 (Nat.le_of_ble_eq_true rfl) dX3_readWord_113 (fun H locs S => ?_)
            refine lv_if_eq (tgt := 124) X.1 X.2.1 dX3_readWord_116 (by decide) (fun c_17 => ?_) (fun c_17 => ?_)
            · have h := pz_t c_17 h
              refine lv_aload_n X.1 X.2.1 dX3_readWord_124 rfl (lv_at hl 0 rfl) ?_
              refine va_ldcS X.1 X.2.1 X.2.2.2.1 (sk_7 X.2.2.2.2.2.1) dX3_readWord_125 ?_
              obtain ⟨q_18, eq_18, h⟩ := pz_bd_e h
              refine r_Vi X S (c_X3_spells (by decide) eq_18) gd_X3_109 ⟨rfl, ny_X3_spells⟩ ⟨rfl, rfl⟩ ⟨Nat.le_of_ble_eq_true rfl, Nat.le_of_ble_eq_true rfl⟩ (r_recv X S (ly_ok_3 (by decide) S.2.2.2) rfl rfl) rfl rfl hl.1 (Nat.le_of_ble_eq_true rfl) dX3_readWord_127 (fun H locs S => ?_)
              refine lv_if_eq (tgt := 138) X.1 X.2.1 dX3_readWord_130 (by decide) (fun c_19 => ?_) (fun c_19 => ?_)
              · have h := pz_t c_19 h
                refine lv_aload_n X.1 X.2.1 dX3_readWord_138 rfl (lv_at hl 0 rfl) ?_
                refine va_ldcS X.1 X.2.1 X.2.2.2.1 (sk_8 X.2.2.2.2.2.1) dX3_readWord_139 ?_
                obtain ⟨q_20, eq_20, h⟩ := pz_bd_e h
                refine r_Vi X S (c_X3_spells (by decide) eq_20) gd_X3_109 ⟨rfl, ny_X3_spells⟩ ⟨rfl, rfl⟩ ⟨Nat.le_of_ble_eq_true rfl, Nat.le_of_ble_eq_true rfl⟩ (r_recv X S (ly_ok_3 (by decide) S.2.2.2) rfl rfl) rfl rfl hl.1 (Nat.le_of_ble_eq_true rfl) dX3_readWord_141 (fun H locs S => ?_)
                refine lv_if_eq (tgt := 152) X.1 X.2.1 dX3_readWord_144 (by decide) (fun c_21 => ?_) (fun c_21 => ?_)
                · have h := pz_t c_21 h
                  refine lv_aload_n X.1 X.2.1 dX3_readWord_152 rfl (lv_at hl 0 rfl) ?_
                  refine va_ldcS X.1 X.2.1 X.2.2.2.1 (sk_9 X.2.2.2.2.2.1) dX3_readWord_153 ?_
                  obtain ⟨q_22, eq_22, h⟩ := pz_bd_e h
                  refine r_Vi X S (c_X3_spells (by decide) eq_22) gd_X3_109 ⟨rfl, ny_X3_spells⟩ ⟨rfl, rfl⟩ ⟨Nat.le_of_ble_eq_true rfl, Nat.le_of_ble_eq_true rfl⟩ (r_recv X S (ly_ok_3 (by decide) S.2.2.2) rfl rfl) rfl rfl hl.1 (Nat.le_of_ble_eq_true rfl) dX3_readWord_155 (fun H locs S => ?_)
                  refine lv_if_eq (tgt := 166) X.1 X.2.1 dX3_readWord_158 (by decide) (fun c_23 => ?_) (fun c_23 => ?_)
                  · have h := pz_t c_23 h
                    refine lv_aload_n X.1 X.2.1 dX3_readWord_166 rfl (lv_at hl 0 rfl) ?_
                    refine va_ldcS X.1 X.2.1 X.2.2.2.1 (sk_10 X.2.2.2.2.2.1) dX3_readWord_167 ?_
                    obtain ⟨q_24, eq_24, h⟩ := pz_bd_e h
                    refine r_Vi X S (c_X3_spells (by decide) eq_24) gd_X3_109 ⟨rfl, ny_X3_spells⟩ ⟨rfl, rfl⟩ ⟨Nat.le_of_ble_eq_true rfl, Nat.le_of_ble_eq_true rfl⟩ (r_recv X S (ly_ok_3 (by decide) S.2.2.2) rfl rfl) rfl rfl hl.1 (Nat.le_of_ble_eq_true rfl) dX3_readWord_169 (fun H locs S => ?_)
                    refine lv_if_eq (tgt := 180) X.1 X.2.1 dX3_readWord_172 (by decide) (fun c_25 => ?_) (fun c_25 => ?_)
                    · have h := pz_t c_25 h
                      refine lv_aload_n X.1 X.2.1 dX3_readWord_180 rfl (lv_at hl 0 rfl) ?_
                      refine va_ldcS X.1 X.2.1 X.2.2.2.1 (sk_11 X.2.2.2.2.2.1) dX3_readWord_181 ?_
                      obtain ⟨q_26, eq_26, h⟩ := pz_bd_e h
                      refine r_Vi X S (c_X3_spells (by decide) eq_26) gd_X3_109 ⟨rfl, ny_X3_spells⟩ ⟨rfl, rfl⟩ ⟨Nat.le_of_ble_eq_true rfl, Nat.le_of_ble_eq_true rfl⟩ (r_recv X S (ly_ok_3 (by decide) S.2.2.2) rfl rfl) rfl rfl hl.1 (Nat.le_of_ble_eq_true rfl) dX3_readWord_183 (fun H locs S => ?_)
                      refine lv_if_eq (tgt := 194) X.1 X.2.1 dX3_readWord_186 (by decide) (fun c_27 => ?_) (fun c_27 => ?_)
                      · have h := pz_t c_27 h
                        refine lv_aload_n X.1 X.2.1 dX3_readWord_194 rfl (lv_at hl 0 rfl) ?_
                        refine va_ldcS X.1 X.2.1 X.2.2.2.1 (sk_12 X.2.2.2.2.2.1) dX3_readWord_195 ?_
                        obtain ⟨q_28, eq_28, h⟩ := pz_bd_e h
                        refine r_Vi X S (c_X3_spells (by decide) eq_28) gd_X3_109 ⟨rfl, ny_X3_spells⟩ ⟨rfl, rfl⟩ ⟨Nat.le_of_ble_eq_true rfl, Nat.le_of_ble_eq_true rfl⟩ (r_recv X S (ly_ok_3 (by decide) S.2.2.2) rfl rfl) rfl rfl hl.1 (Nat.le_of_ble_eq_true rfl) dX3_readWord_197 (fun H locs S => ?_)
                        refine lv_if_eq (tgt := 208) X.1 X.2.1 dX3_readWord_200 (by decide) (fun c_29 => ?_) (fun c_29 => ?_)
                        · have h := pz_t c_29 h
                          refine lv_iconst (v := 2) X.1 X.2.1 dX3_readWord_208 (by decide) ?_
                          refine pf_X3_48 X S (by decide) dX3_readWord_209 (fun I_30 H locs eI_30 S => ?_)
                          have h := pz_lt_e h eI_30
                          cases h
                          exact r_vret X S dX3_readWord_212
                        have h := pz_f c_29 h
                        refine lv_bipush (v := 112) X.1 X.2.1 dX3_readWord_203 (by decide) ?_
                        refine lv_goto (tgt := 209) X.1 X.2.1 dX3_readWord_205 (by decide) ?_
                        refine pf_X3_48 X S (by decide) dX3_readWord_209 (fun I_31 H locs eI_31 S => ?_)
                        have h := pz_lt_e h eI_31
                        cases h
                        exact r_vret X S dX3_readWord_212
                      have h := pz_f c_27 h
                      refine lv_bipush (v := 111) X.1 X.2.1 dX3_readWord_189 (by decide) ?_
                      refine lv_goto (tgt := 209) X.1 X.2.1 dX3_readWord_191 (by decide) ?_
                      refine pf_X3_48 X S (by decide) dX3_readWord_209 (fun I_32 H locs eI_32 S => ?_)
                      have h := pz_lt_e h eI_32
                      cases h
                      exact r_vret X S dX3_readWord_212
                    have h := pz_f c_25 h
                    refine lv_bipush (v := 110) X.1 X.2.1 dX3_readWord_175 (by decide) ?_
                    refine lv_goto (tgt := 209) X.1 X.2.1 dX3_readWord_177 (by decide) ?_
                    refine pf_X3_48 X S (by decide) dX3_readWord_209 (fun I_33 H locs eI_33 S => ?_)
                    have h := pz_lt_e h eI_33
                    cases h
                    exact r_vret X S dX3_readWord_212
                  have h := pz_f c_23 h
                  refine lv_bipush (v := 109) X.1 X.2.1 dX3_readWord_161 (by decide) ?_
                  refine lv_goto (tgt := 209) X.1 X.2.1 dX3_readWord_163 (by decide) ?_
                  refine pf_X3_48 X S (by decide) dX3_readWord_209 (fun I_34 H locs eI_34 S => ?_)
                  have h := pz_lt_e h eI_34
                  cases h
                  exact r_vret X S dX3_readWord_212
                have h := pz_f c_21 h
                refine lv_bipush (v := 108) X.1 X.2.1 dX3_readWord_147 (by decide) ?_
                refine lv_goto (tgt := 209) X.1 X.2.1 dX3_readWord_149 (by decide) ?_
                refine pf_X3_48 X S (by decide) dX3_readWord_209 (fun I_35 H locs eI_35 S => ?_)
                have h := pz_lt_e h eI_35
                cases h
                exact r_vret X S dX3_readWord_212
              have h := pz_f c_19 h
              refine lv_bipush (v := 107) X.1 X.2.1 dX3_readWord_133 (by decide) ?_
              refine lv_goto (tgt := 209) X.1 X.2.1 dX3_readWord_135 (by decide) ?_
              refine pf_X3_48 X S (by decide) dX3_readWord_209 (fun I_36 H locs eI_36 S => ?_)
              have h := pz_lt_e h eI_36
              cases h
              exact r_vret X S dX3_readWord_212
            have h := pz_f c_17 h
            refine lv_bipush (v := 106) X.1 X.2.1 dX3_readWord_119 (by decide) ?_
            refine lv_goto (tgt := 209) X.1 X.2.1 dX3_readWord_121 (by decide) ?_
            refine pf_X3_48 X S (by decide) dX3_readWord_209 (fun I_37 H locs eI_37 S => ?_)
            have h := pz_lt_e h eI_37
            cases h
            exact r_vret X S dX3_readWord_212
          have h := pz_f c_15 h
          refine lv_bipush (v := 105) X.1 X.2.1 dX3_readWord_105 (by decide) ?_
          refine lv_goto (tgt := 209) X.1 X.2.1 dX3_readWord_107 (by decide) ?_
          refine pf_X3_48 X S (by decide) dX3_readWord_209 (fun I_38 H locs eI_38 S => ?_)
          have h := pz_lt_e h eI_38
          cases h
          exact r_vret X S dX3_readWord_212
        have h := pz_f c_13 h
        refine lv_bipush (v := 104) X.1 X.2.1 dX3_readWord_91 (by decide) ?_
        refine lv_goto (tgt := 209) X.1 X.2.1 dX3_readWord_93 (by decide) ?_
        refine pf_X3_48 X S (by decide) dX3_readWord_209 (fun I_39 H locs eI_39 S => ?_)
        have h := pz_lt_e h eI_39
        cases h
        exact r_vret X S dX3_readWord_212
      have h := pz_f c_11 h
      refine lv_bipush (v := 103) X.1 X.2.1 dX3_readWord_77 (by decide) ?_
      refine lv_goto (tgt := 209) X.1 X.2.1 dX3_readWord_79 (by decide) ?_
      refine pf_X3_48 X S (by decide) dX3_readWord_209 (fun I_40 H locs eI_40 S => ?_)
      have h := pz_lt_e h eI_40
      cases h
      exact r_vret X S dX3_readWord_212
    have h := pz_f c_9 h
    refine lv_bipush (v := 102) X.1 X.2.1 dX3_readWord_63 (by decide) ?_
    refine lv_goto (tgt := 209) X.1 X.2.1 dX3_readWord_65 (by decide) ?_
    refine pf_X3_48 X S (by decide) dX3_readWord_209 (fun I_41 H locs eI_41 S => ?_)
    have h := pz_lt_e h eI_41
    cases h
    exact r_vret X S dX3_readWord_212
  have h := pz_f c_7 h
  refine lv_bipush (v := 101) X.1 X.2.1 dX3_readWord_49 (by decide) ?_
  refine lv_goto (tgt := 209) X.1 X.2.1 dX3_readWord_51 (by decide) ?_
  refine pf_X3_48 X S (by decide) dX3_readWord_209 (fun I_42 H locs eI_42 S => ?_)
  have h := pz_lt_e h eI_42
  cases h
  exact r_vret X S dX3_readWord_212
def f_X3_readWord_L0 (N n : Nat) : Nat → mm_T → Option (mm_T)
  | 0, _ => none
  | cnt + 1, I => if (I 3 0 1) ≤ (I 3 0 9) then (f_X3_readWord_L39 N n I) else (pz_gd (ix_in (I 3 0 9) 160) <| pz_bd (f_X3_isLetter N (I 18 0 (I 3 0 9).toNatClampNeg)) fun q_3 => if q_3 = 0 then (f_X3_readWord_L39 N n I) else (pz_lt (mm_up I 3 0 9 ((I 3 0 9) + (1 : Int32))) fun I_5 => f_X3_readWord_L0 N n cnt I_5))
set_option maxRecDepth 100000 in
set_option maxHeartbeats 4000000 in
theorem w_X3_readWord_L0 {l : Launch} {G : cx_T} {p : Program} {e : Env} {s : State} {m : MethodId} {args : Array Value} {below : List Frame} {meth : Method} {c : Code} {N n : Nat} {J : mm_T} (X : cx_ok G p s m args meth c cX3_readWord 1 RX3 none) (hn : 111 ≤ n) {z : mm_T} : ∀ (cnt : Nat) {I : mm_T} {H : Heap} {locs : List Loc} {ls : Array Slot} , f_X3_readWord_L0 N n cnt I = some z → st_ok G n I J s H locs → lv_has ls 1 [(0, .ref (cx_b G + ly_loc 3 0))] → W p l e ({ frames := 6, cells := 0, slots := 0, locals := 167 }) s m args below meth c H locs 0 0 (MQ below (ct_qv G n z J) args s 0 0 (cx_A G)) (F0 m 0 ls []) := by
  intro cnt
  induction cnt with
  | zero =>
    intro I H locs ls h
    rw [f_X3_readWord_L0] at h
    cases h
  | succ cnt ih =>
    intro I H locs ls h S hl
    rw [f_X3_readWord_L0] at h
    refine lv_aload_n X.1 X.2.1 dX3_readWord_0 rfl (lv_at hl 0 rfl) ?_
    refine gf_X3_25 X S (by decide) dX3_readWord_1 ?_
    refine lv_aload_n X.1 X.2.1 dX3_readWord_4 rfl (lv_at hl 0 rfl) ?_
    refine gf_X3_18 X S (by decide) dX3_readWord_5 ?_
    refine lv_icmp_ge (tgt := 39) X.1 X.2.1 dX3_readWord_8 (by decide) (fun c_1 => ?_) (fun c_1 => ?_)
    · have h := pz_t c_1 h
      exact w_X3_readWord_L39 X hn h S (lv_sub hl [0] rfl)
    have h := pz_f c_1 h
    refine lv_aload_n X.1 X.2.1 dX3_readWord_11 rfl (lv_at hl 0 rfl) ?_
    refine gf_X3_9 X S (by decide) dX3_readWord_12 ?_
    refine lv_aload_n X.1 X.2.1 dX3_readWord_15 rfl (lv_at hl 0 rfl) ?_
    refine gf_X3_25 X S (by decide) dX3_readWord_16 ?_
    obtain ⟨g_2, h⟩ := pz_gd_e h
    refine al_18 X S (by decide) g_2 dX3_readWord_19 ?_
    obtain ⟨q_3, eq_3, h⟩ := pz_bd_e h
    refine r_Si X S (c_X3_isLetter eq_3) gd_X3_87 ny_X3_isLetter ⟨rfl, rfl⟩ ⟨Nat.le_of_ble_eq_true rfl, Nat.le_of_ble_eq_true rfl⟩ rfl rfl hl.1 (Nat.le_of_ble_eq_true rfl) dX3_readWord_20 (fun H locs S => ?_)
    refine lv_if_eq (tgt := 39) X.1 X.2.1 dX3_readWord_23 (by decide) (fun c_4 => ?_) (fun c_4 => ?_)
    · have h := pz_t c_4 h
      exact w_X3_readWord_L39 X hn h S (lv_sub hl [0] rfl)
    have h := pz_f c_4 h
    refine lv_aload_n X.1 X.2.1 dX3_readWord_26 rfl (lv_at hl 0 rfl) ?_
    refine lv_dup X.1 X.2.1 dX3_readWord_27 rfl ?_
    refine gf_X3_25 X S (by decide) dX3_readWord_28 ?_
    refine lv_iconst (v := 1) X.1 X.2.1 dX3_readWord_31 (by decide) ?_
    refine lv_iadd X.1 X.2.1 dX3_readWord_32 ?_
    refine pf_X3_25 X S (by decide) dX3_readWord_33 (fun I_5 H locs eI_5 S => ?_)
    have h := pz_lt_e h eI_5
    refine lv_goto (tgt := 0) X.1 X.2.1 dX3_readWord_36 (by decide) ?_
    exact ih h S (lv_sub hl [0] rfl)
def f_X3_readWord (N n : Nat) (I : mm_T) : Option (mm_T) := f_X3_readWord_L0 N n N I
set_option maxRecDepth 100000 in
set_option maxHeartbeats 4000000 in
theorem c_X3_readWord {l : Launch} {G : cx_T} {N n : Nat} {I J : mm_T} {z : mm_T} (h : f_X3_readWord N n I = some z) : ct_m l G n yX3_readWord cX3_readWord 1 none ({ frames := 6, cells := 0, slots := 0, locals := 167 }) [.ref (cx_b G + ly_loc 3 0)] I J (ct_qv G n z J) := by
  refine ct_en (by decide) (Nat.le_of_ble_eq_true rfl) ?_
  intro p e s m args below meth c ls X S hl
  have X : cx_ok G p s m args meth c cX3_readWord 1 RX3 none := X
  have hl : lv_has ls 1 [(0, .ref (cx_b G + ly_loc 3 0))] := hl
  have hn := S.2.2.2
  unfold f_X3_readWord at h
  exact w_X3_readWord_L0 X hn N h S (lv_sub hl [0] rfl)
def f_X3_isDigit (N : Nat) (p1 : Int32) : Option (Int32) := if p1 < (48 : Int32) then (some (0 : Int32)) else (if (57 : Int32) < p1 then (some (0 : Int32)) else (some (1 : Int32)))
set_option maxRecDepth 100000 in
set_option maxHeartbeats 4000000 in
theorem c_X3_isDigit {l : Launch} {G : cx_T} {N n : Nat} {I J : mm_T} {p1 : Int32} {z : Int32} (h : f_X3_isDigit N p1 = some z) : ct_m l G n yX3_isDigit cX3_isDigit 1 (some .boolean) ({ frames := 0, cells := 0, slots := 0, locals := 0 }) [.int p1] I J (ct_qi G n I J z) := by
  refine ct_en (by decide) (Nat.le_of_ble_eq_true rfl) ?_
  intro p e s m args below meth c ls X S hl
  have X : cx_ok G p s m args meth c cX3_isDigit 1 RX3 (some .boolean) := X
  have hl : lv_has ls 1 [(0, .int p1)] := hl
  have hn := S.2.2.2
  unfold f_X3_isDigit at h
  refine lv_iload_n X.1 X.2.1 dX3_isDigit_0 rfl (lv_at hl 0 rfl) ?_
  refine lv_bipush (v := 48) X.1 X.2.1 dX3_isDigit_1 (by decide) ?_
  refine lv_icmp_lt (tgt := 16) X.1 X.2.1 dX3_isDigit_3 (by decide) (fun c_1 => ?_) (fun c_1 => ?_)
  · have h := pz_t c_1 h
    refine lv_iconst (v := 0) X.1 X.2.1 dX3_isDigit_16 (by decide) ?_
    cases h
    exact r_zret (v := 0) X S rfl dX3_isDigit_17
  have h := pz_f c_1 h
  refine lv_iload_n X.1 X.2.1 dX3_isDigit_6 rfl (lv_at hl 0 rfl) ?_
  refine lv_bipush (v := 57) X.1 X.2.1 dX3_isDigit_7 (by decide) ?_
  refine lv_icmp_gt (tgt := 16) X.1 X.2.1 dX3_isDigit_9 (by decide) (fun c_2 => ?_) (fun c_2 => ?_)
  · have h := pz_t c_2 h
    refine lv_iconst (v := 0) X.1 X.2.1 dX3_isDigit_16 (by decide) ?_
    cases h
    exact r_zret (v := 0) X S rfl dX3_isDigit_17
  have h := pz_f c_2 h
  refine lv_iconst (v := 1) X.1 X.2.1 dX3_isDigit_12 (by decide) ?_
  refine lv_goto (tgt := 17) X.1 X.2.1 dX3_isDigit_13 (by decide) ?_
  cases h
  exact r_zret (v := 1) X S rfl dX3_isDigit_17
def f_X3_readNumber_L68 (N n : Nat) (I : mm_T) : Option (mm_T) := if ((I 3 0 9) - (I 3 0 8)) ≤ (4 : Int32) then (pz_lt (mm_up I 3 0 6 (3 : Int32)) fun I_10 => some I_10) else (pz_lt (mm_up I 3 0 6 (2 : Int32)) fun I_11 => some I_11)
set_option maxRecDepth 100000 in
set_option maxHeartbeats 4000000 in
theorem w_X3_readNumber_L68 {l : Launch} {G : cx_T} {p : Program} {e : Env} {s : State} {m : MethodId} {args : Array Value} {below : List Frame} {meth : Method} {c : Code} {N n : Nat} {J : mm_T} (X : cx_ok G p s m args meth c cX3_readNumber 1 RX3 none) (hn : 111 ≤ n) {z : mm_T} {I : mm_T} {H : Heap} {locs : List Loc} {ls : Array Slot} (h : f_X3_readNumber_L68 N n I = some z) (S : st_ok G n I J s H locs) (hl : lv_has ls 1 [(0, .ref (cx_b G + ly_loc 3 0))]) : W p l e ({ frames := 1, cells := 0, slots := 0, locals := 20 }) s m args below meth c H locs 0 0 (MQ below (ct_qv G n z J) args s 0 0 (cx_A G)) (F0 m 68 ls []) := by
  unfold f_X3_readNumber_L68 at h
  refine lv_aload_n X.1 X.2.1 dX3_readNumber_68 rfl (lv_at hl 0 rfl) ?_
  refine lv_aload_n X.1 X.2.1 dX3_readNumber_69 rfl (lv_at hl 0 rfl) ?_
  refine gf_X3_25 X S (by decide) dX3_readNumber_70 ?_
  refine lv_aload_n X.1 X.2.1 dX3_readNumber_73 rfl (lv_at hl 0 rfl) ?_
  refine gf_X3_65 X S (by decide) dX3_readNumber_74 ?_
  refine lv_isub X.1 X.2.1 dX3_readNumber_77 ?_
  refine lv_iconst (v := 4) X.1 X.2.1 dX3_readNumber_78 (by decide) ?_
  refine lv_icmp_le (tgt := 86) X.1 X.2.1 dX3_readNumber_79 (by decide) (fun c_9 => ?_) (fun c_9 => ?_)
  · have h := pz_t c_9 h
    refine lv_iconst (v := 3) X.1 X.2.1 dX3_readNumber_86 (by decide) ?_
    refine pf_X3_48 X S (by decide) dX3_readNumber_87 (fun I_10 H locs eI_10 S => ?_)
    have h := pz_lt_e h eI_10
    cases h
    exact r_vret X S dX3_readNumber_90
  have h := pz_f c_9 h
  refine lv_iconst (v := 2) X.1 X.2.1 dX3_readNumber_82 (by decide) ?_
  refine lv_goto (tgt := 87) X.1 X.2.1 dX3_readNumber_83 (by decide) ?_
  refine pf_X3_48 X S (by decide) dX3_readNumber_87 (fun I_11 H locs eI_11 S => ?_)
  have h := pz_lt_e h eI_11
  cases h
  exact r_vret X S dX3_readNumber_90
def f_X3_readNumber_L5 (N n : Nat) : Nat → mm_T → Option (mm_T)
  | 0, _ => none
  | cnt + 1, I => if (I 3 0 1) ≤ (I 3 0 9) then (f_X3_readNumber_L68 N n I) else (pz_gd (ix_in (I 3 0 9) 160) <| pz_bd (f_X3_isDigit N (I 18 0 (I 3 0 9).toNatClampNeg)) fun q_4 => if q_4 = 0 then (f_X3_readNumber_L68 N n I) else (pz_gd (ix_in (I 3 0 9) 160) <| pz_lt (mm_up I 3 0 7 ((((I 3 0 7) * (10 : Int32)) + (I 18 0 (I 3 0 9).toNatClampNeg)) - (48 : Int32))) fun I_7 => pz_lt (mm_up I_7 3 0 9 ((I_7 3 0 9) + (1 : Int32))) fun I_8 => f_X3_readNumber_L5 N n cnt I_8))
set_option maxRecDepth 100000 in
set_option maxHeartbeats 4000000 in
theorem w_X3_readNumber_L5 {l : Launch} {G : cx_T} {p : Program} {e : Env} {s : State} {m : MethodId} {args : Array Value} {below : List Frame} {meth : Method} {c : Code} {N n : Nat} {J : mm_T} (X : cx_ok G p s m args meth c cX3_readNumber 1 RX3 none) (hn : 111 ≤ n) {z : mm_T} : ∀ (cnt : Nat) {I : mm_T} {H : Heap} {locs : List Loc} {ls : Array Slot} , f_X3_readNumber_L5 N n cnt I = some z → st_ok G n I J s H locs → lv_has ls 1 [(0, .ref (cx_b G + ly_loc 3 0))] → W p l e ({ frames := 1, cells := 0, slots := 0, locals := 20 }) s m args below meth c H locs 0 0 (MQ below (ct_qv G n z J) args s 0 0 (cx_A G)) (F0 m 5 ls []) := by
  intro cnt
  induction cnt with
  | zero =>
    intro I H locs ls h
    rw [f_X3_readNumber_L5] at h
    cases h
  | succ cnt ih =>
    intro I H locs ls h S hl
    rw [f_X3_readNumber_L5] at h
    refine lv_aload_n X.1 X.2.1 dX3_readNumber_5 rfl (lv_at hl 0 rfl) ?_
    refine gf_X3_25 X S (by decide) dX3_readNumber_6 ?_
    refine lv_aload_n X.1 X.2.1 dX3_readNumber_9 rfl (lv_at hl 0 rfl) ?_
    refine gf_X3_18 X S (by decide) dX3_readNumber_10 ?_
    refine lv_icmp_ge (tgt := 68) X.1 X.2.1 dX3_readNumber_13 (by decide) (fun c_2 => ?_) (fun c_2 => ?_)
    · have h := pz_t c_2 h
      exact w_X3_readNumber_L68 X hn h S (lv_sub hl [0] rfl)
    have h := pz_f c_2 h
    refine lv_aload_n X.1 X.2.1 dX3_readNumber_16 rfl (lv_at hl 0 rfl) ?_
    refine gf_X3_9 X S (by decide) dX3_readNumber_17 ?_
    refine lv_aload_n X.1 X.2.1 dX3_readNumber_20 rfl (lv_at hl 0 rfl) ?_
    refine gf_X3_25 X S (by decide) dX3_readNumber_21 ?_
    obtain ⟨g_3, h⟩ := pz_gd_e h
    refine al_18 X S (by decide) g_3 dX3_readNumber_24 ?_
    obtain ⟨q_4, eq_4, h⟩ := pz_bd_e h
    refine r_Si X S (c_X3_isDigit eq_4) gd_X3_93 ny_X3_isDigit ⟨rfl, rfl⟩ ⟨Nat.le_of_ble_eq_true rfl, Nat.le_of_ble_eq_true rfl⟩ rfl rfl hl.1 (Nat.le_of_ble_eq_true rfl) dX3_readNumber_25 (fun H locs S => ?_)
    refine lv_if_eq (tgt := 68) X.1 X.2.1 dX3_readNumber_28 (by decide) (fun c_5 => ?_) (fun c_5 => ?_)
    · have h := pz_t c_5 h
      exact w_X3_readNumber_L68 X hn h S (lv_sub hl [0] rfl)
    have h := pz_f c_5 h
    refine lv_aload_n X.1 X.2.1 dX3_readNumber_31 rfl (lv_at hl 0 rfl) ?_
    refine lv_aload_n X.1 X.2.1 dX3_readNumber_32 rfl (lv_at hl 0 rfl) ?_
    refine gf_X3_81 X S (by decide) dX3_readNumber_33 ?_
    refine lv_bipush (v := 10) X.1 X.2.1 dX3_readNumber_36 (by decide) ?_
    refine lv_imul X.1 X.2.1 dX3_readNumber_38 ?_
    refine lv_aload_n X.1 X.2.1 dX3_readNumber_39 rfl (lv_at hl 0 rfl) ?_
    refine gf_X3_9 X S (by decide) dX3_readNumber_40 ?_
    refine lv_aload_n X.1 X.2.1 dX3_readNumber_43 rfl (lv_at hl 0 rfl) ?_
    refine gf_X3_25 X S (by decide) dX3_readNumber_44 ?_
    obtain ⟨g_6, h⟩ := pz_gd_e h
    refine al_18 X S (by decide) g_6 dX3_readNumber_47 ?_
    refine lv_iadd X.1 X.2.1 dX3_readNumber_48 ?_
    refine lv_bipush (v := 48) X.1 X.2.1 dX3_readNumber_49 (by decide) ?_
    refine lv_isub X.1 X.2.1 dX3_readNumber_51 ?_
    refine pf_X3_81 X S (by decide) dX3_readNumber_52 (fun I_7 H locs eI_7 S => ?_)
    have h := pz_lt_e h eI_7
    refine lv_aload_n X.1 X.2.1 dX3_readNumber_55 rfl (lv_at hl 0 rfl) ?_
    refine lv_dup X.1 X.2.1 dX3_readNumber_56 rfl ?_
    refine gf_X3_25 X S (by decide) dX3_readNumber_57 ?_
    refine lv_iconst (v := 1) X.1 X.2.1 dX3_readNumber_60 (by decide) ?_
    refine lv_iadd X.1 X.2.1 dX3_readNumber_61 ?_
    refine pf_X3_25 X S (by decide) dX3_readNumber_62 (fun I_8 H locs eI_8 S => ?_)
    have h := pz_lt_e h eI_8
    refine lv_goto (tgt := 5) X.1 X.2.1 dX3_readNumber_65 (by decide) ?_
    exact ih h S (lv_sub hl [0] rfl)
def f_X3_readNumber (N n : Nat) (I : mm_T) : Option (mm_T) := pz_lt (mm_up I 3 0 7 (0 : Int32)) fun I_1 => f_X3_readNumber_L5 N n N I_1
set_option maxRecDepth 100000 in
set_option maxHeartbeats 4000000 in
theorem c_X3_readNumber {l : Launch} {G : cx_T} {N n : Nat} {I J : mm_T} {z : mm_T} (h : f_X3_readNumber N n I = some z) : ct_m l G n yX3_readNumber cX3_readNumber 1 none ({ frames := 1, cells := 0, slots := 0, locals := 20 }) [.ref (cx_b G + ly_loc 3 0)] I J (ct_qv G n z J) := by
  refine ct_en (by decide) (Nat.le_of_ble_eq_true rfl) ?_
  intro p e s m args below meth c ls X S hl
  have X : cx_ok G p s m args meth c cX3_readNumber 1 RX3 none := X
  have hl : lv_has ls 1 [(0, .ref (cx_b G + ly_loc 3 0))] := hl
  have hn := S.2.2.2
  unfold f_X3_readNumber at h
  refine lv_aload_n X.1 X.2.1 dX3_readNumber_0 rfl (lv_at hl 0 rfl) ?_
  refine lv_iconst (v := 0) X.1 X.2.1 dX3_readNumber_1 (by decide) ?_
  refine pf_X3_81 X S (by decide) dX3_readNumber_2 (fun I_1 H locs eI_1 S => ?_)
  have h := pz_lt_e h eI_1
  exact w_X3_readNumber_L5 X hn N h S (lv_sub hl [0] rfl)
def f_X3_readToken_L47 (N n : Nat) (k8 : mm_T → Option (mm_T)) (I : mm_T) : Option (mm_T) := pz_lt (mm_up I 3 0 8 ((I 3 0 8) + (1 : Int32))) fun I_26 => k8 I_26
set_option maxRecDepth 100000 in
set_option maxHeartbeats 4000000 in
theorem w_X3_readToken_L47 {l : Launch} {G : cx_T} {p : Program} {e : Env} {s : State} {m : MethodId} {args : Array Value} {below : List Frame} {meth : Method} {c : Code} {N n : Nat} {J : mm_T} (X : cx_ok G p s m args meth c cX3_readToken 1 RX3 none) (hn : 111 ≤ n) {k8 : mm_T → Option (mm_T)} {z : mm_T} (K8 : ∀ {I : mm_T} {H : Heap} {locs : List Loc} {ls : Array Slot}, k8 I = some z → st_ok G n I J s H locs → lv_has ls 1 [(0, .ref (cx_b G + ly_loc 3 0))] → W p l e ({ frames := 7, cells := 0, slots := 0, locals := 187 }) s m args below meth c H locs 0 0 (MQ below (ct_qv G n z J) args s 0 0 (cx_A G)) (F0 m 8 ls [])) {I : mm_T} {H : Heap} {locs : List Loc} {ls : Array Slot} (h : f_X3_readToken_L47 N n k8 I = some z) (S : st_ok G n I J s H locs) (hl : lv_has ls 1 [(0, .ref (cx_b G + ly_loc 3 0))]) : W p l e ({ frames := 7, cells := 0, slots := 0, locals := 187 }) s m args below meth c H locs 0 0 (MQ below (ct_qv G n z J) args s 0 0 (cx_A G)) (F0 m 47 ls []) := by
  unfold f_X3_readToken_L47 at h
  refine lv_aload_n X.1 X.2.1 dX3_readToken_47 rfl (lv_at hl 0 rfl) ?_
  refine lv_dup X.1 X.2.1 dX3_readToken_48 rfl ?_
  refine gf_X3_65 X S (by decide) dX3_readToken_49 ?_
  refine lv_iconst (v := 1) X.1 X.2.1 dX3_readToken_52 (by decide) ?_
  refine lv_iadd X.1 X.2.1 dX3_readToken_53 ?_
  refine pf_X3_65 X S (by decide) dX3_readToken_54 (fun I_26 H locs eI_26 S => ?_)
  have h := pz_lt_e h eI_26
  refine lv_goto (tgt := 8) X.1 X.2.1 dX3_readToken_57 (by decide) ?_
  exact K8 h S (lv_sub hl [0] rfl)
def f_X3_readToken_L60 (N n : Nat) (I : mm_T) : Option (mm_T) := pz_lt (mm_up I 3 0 9 (I 3 0 8)) fun I_7 => if (I_7 3 0 8) < (I_7 3 0 1) then (pz_gd (ix_in (I_7 3 0 8) 160) <| pz_bd (f_X3_isLetter N (I_7 18 0 (I_7 3 0 8).toNatClampNeg)) fun q_10 => if q_10 = 0 then (pz_gd (ix_in (I_7 3 0 8) 160) <| pz_bd (f_X3_isDigit N (I_7 18 0 (I_7 3 0 8).toNatClampNeg)) fun q_13 => if q_13 = 0 then (pz_gd (ix_in (I_7 3 0 8) 160) <| pz_bd (f_J0_indexOf_0f7a4 N 13 (((I_7 18 0 (I_7 3 0 8).toNatClampNeg).toUInt32 % 65536).toInt32)) fun q_16 => if q_16 < 0 then (pz_lt (mm_up I_7 3 0 6 (2 : Int32)) fun I_18 => pz_lt (mm_up I_18 3 0 9 ((I_18 3 0 8) + (1 : Int32))) fun I_19 => some I_19) else (pz_gd (ix_in (I_7 3 0 8) 160) <| pz_lt (mm_up I_7 3 0 6 (I_7 18 0 (I_7 3 0 8).toNatClampNeg)) fun I_21 => pz_lt (mm_up I_21 3 0 9 ((I_21 3 0 8) + (1 : Int32))) fun I_22 => some I_22)) else (pz_bd (f_X3_readNumber N n I_7) fun q_23 => some q_23)) else (pz_bd (f_X3_readWord N n I_7) fun q_24 => some q_24)) else (pz_lt (mm_up I_7 3 0 6 (1 : Int32)) fun I_25 => some I_25)
set_option maxRecDepth 100000 in
set_option maxHeartbeats 4000000 in
theorem w_X3_readToken_L60 {l : Launch} {G : cx_T} {p : Program} {e : Env} {s : State} {m : MethodId} {args : Array Value} {below : List Frame} {meth : Method} {c : Code} {N n : Nat} {J : mm_T} (X : cx_ok G p s m args meth c cX3_readToken 1 RX3 none) (hn : 111 ≤ n) {z : mm_T} {I : mm_T} {H : Heap} {locs : List Loc} {ls : Array Slot} (h : f_X3_readToken_L60 N n I = some z) (S : st_ok G n I J s H locs) (hl : lv_has ls 1 [(0, .ref (cx_b G + ly_loc 3 0))]) : W p l e ({ frames := 7, cells := 0, slots := 0, locals := 187 }) s m args below meth c H locs 0 0 (MQ below (ct_qv G n z J) args s 0 0 (cx_A G)) (F0 m 60 ls []) := by
  unfold f_X3_readToken_L60 at h
  refine lv_aload_n X.1 X.2.1 dX3_readToken_60 rfl (lv_at hl 0 rfl) ?_
  refine lv_aload_n X.1 X.2.1 dX3_readToken_61 rfl (lv_at hl 0 rfl) ?_
  refine gf_X3_65 X S (by decide) dX3_readToken_62 ?_
  refine pf_X3_25 X S (by decide) dX3_readToken_65 (fun I_7 H locs eI_7 S => ?_)
  have h := pz_lt_e h eI_7
  refine lv_aload_n X.1 X.2.1 dX3_readToken_68 rfl (lv_at hl 0 rfl) ?_
  refine gf_X3_65 X S (by decide) dX3_readToken_69 ?_
  refine lv_aload_n X.1 X.2.1 dX3_readToken_72 rfl (lv_at hl 0 rfl) ?_
  refine gf_X3_18 X S (by decide) dX3_readToken_73 ?_
  refine lv_icmp_lt (tgt := 87) X.1 X.2.1 dX3_readToken_76 (by decide) (fun c_8 => ?_) (fun c_8 => ?_)
  · have h := pz_t c_8 h
    refine lv_aload_n X.1 X.2.1 dX3_readToken_87 rfl (lv_at hl 0 rfl) ?_
    refine gf_X3_9 X S (by decide) dX3_readToken_88 ?_
    refine lv_aload_n X.1 X.2.1 dX3_readToken_91 rfl (lv_at hl 0 rfl) ?_
    refine gf_X3_65 X S (by decide) dX3_readToken_92 ?_
    obtain ⟨g_9, h⟩ := pz_gd_e h
    refine al_18 X S (by decide) g_9 dX3_readToken_95 ?_
    obtain ⟨q_10, eq_10, h⟩ := pz_bd_e h
    refine r_Si X S (c_X3_isLetter eq_10) gd_X3_87 ny_X3_isLetter ⟨rfl, rfl⟩ ⟨Nat.le_of_ble_eq_true rfl, Nat.le_of_ble_eq_true rfl⟩ rfl rfl hl.1 (Nat.le_of_ble_eq_true rfl) dX3_readToken_96 (fun H locs S => ?_)
    refine lv_if_eq (tgt := 109) X.1 X.2.1 dX3_readToken_99 (by decide) (fun c_11 => ?_) (fun c_11 => ?_)
    · have h := pz_t c_11 h
      refine lv_aload_n X.1 X.2.1 dX3_readToken_109 rfl (lv_at hl 0 rfl) ?_
      refine gf_X3_9 X S (by decide) dX3_readToken_110 ?_
      refine lv_aload_n X.1 X.2.1 dX3_readToken_113 rfl (lv_at hl 0 rfl) ?_
      refine gf_X3_65 X S (by decide) dX3_readToken_114 ?_
      obtain ⟨g_12, h⟩ := pz_gd_e h
      refine al_18 X S (by decide) g_12 dX3_readToken_117 ?_
      obtain ⟨q_13, eq_13, h⟩ := pz_bd_e h
      refine r_Si X S (c_X3_isDigit eq_13) gd_X3_93 ny_X3_isDigit ⟨rfl, rfl⟩ ⟨Nat.le_of_ble_eq_true rfl, Nat.le_of_ble_eq_true rfl⟩ rfl rfl hl.1 (Nat.le_of_ble_eq_true rfl) dX3_readToken_118 (fun H locs S => ?_)
      refine lv_if_eq (tgt := 131) X.1 X.2.1 dX3_readToken_121 (by decide) (fun c_14 => ?_) (fun c_14 => ?_)
      · have h := pz_t c_14 h
        refine lv_aload_n X.1 X.2.1 dX3_readToken_131 rfl (lv_at hl 0 rfl) ?_
        refine va_ldcS X.1 X.2.1 X.2.2.2.1 (sk_13 X.2.2.2.2.2.1) dX3_readToken_132 ?_
        refine lv_aload_n X.1 X.2.1 dX3_readToken_134 rfl (lv_at hl 0 rfl) ?_
        refine gf_X3_9 X S (by decide) dX3_readToken_135 ?_
        refine lv_aload_n X.1 X.2.1 dX3_readToken_138 rfl (lv_at hl 0 rfl) ?_
        refine gf_X3_65 X S (by decide) dX3_readToken_139 ?_
        obtain ⟨g_15, h⟩ := pz_gd_e h
        refine al_18 X S (by decide) g_15 dX3_readToken_142 ?_
        refine lv_i2c X.1 X.2.1 dX3_readToken_143 rfl ?_
        obtain ⟨q_16, eq_16, h⟩ := pz_bd_e h
        refine r_Vi X S (c_J0_indexOf_0f7a4 (by decide) eq_16) gd_X3_101 ⟨rfl, ny_J0_indexOf_0f7a4⟩ ⟨rfl, rfl⟩ ⟨Nat.le_of_ble_eq_true rfl, Nat.le_of_ble_eq_true rfl⟩ (r_srecv X S (by decide)) rfl rfl hl.1 (Nat.le_of_ble_eq_true rfl) dX3_readToken_144 (fun H locs S => ?_)
        refine lv_if_lt (tgt := 162) X.1 X.2.1 dX3_readToken_147 (by decide) (fun c_17 => ?_) (fun c_17 => ?_)
        · have h := pz_t c_17 h
          refine lv_iconst (v := 2) X.1 X.2.1 dX3_readToken_162 (by decide) ?_
          refine pf_X3_48 X S (by decide) dX3_readToken_163 (fun I_18 H locs eI_18 S => ?_)
          have h := pz_lt_e h eI_18
          refine lv_aload_n X.1 X.2.1 dX3_readToken_166 rfl (lv_at hl 0 rfl) ?_
          refine lv_aload_n X.1 X.2.1 dX3_readToken_167 rfl (lv_at hl 0 rfl) ?_
          refine gf_X3_65 X S (by decide) dX3_readToken_168 ?_
          refine lv_iconst (v := 1) X.1 X.2.1 dX3_readToken_171 (by decide) ?_
          refine lv_iadd X.1 X.2.1 dX3_readToken_172 ?_
          refine pf_X3_25 X S (by decide) dX3_readToken_173 (fun I_19 H locs eI_19 S => ?_)
          have h := pz_lt_e h eI_19
          cases h
          exact r_vret X S dX3_readToken_176
        have h := pz_f c_17 h
        refine lv_aload_n X.1 X.2.1 dX3_readToken_150 rfl (lv_at hl 0 rfl) ?_
        refine gf_X3_9 X S (by decide) dX3_readToken_151 ?_
        refine lv_aload_n X.1 X.2.1 dX3_readToken_154 rfl (lv_at hl 0 rfl) ?_
        refine gf_X3_65 X S (by decide) dX3_readToken_155 ?_
        obtain ⟨g_20, h⟩ := pz_gd_e h
        refine al_18 X S (by decide) g_20 dX3_readToken_158 ?_
        refine lv_goto (tgt := 163) X.1 X.2.1 dX3_readToken_159 (by decide) ?_
        refine pf_X3_48 X S (by decide) dX3_readToken_163 (fun I_21 H locs eI_21 S => ?_)
        have h := pz_lt_e h eI_21
        refine lv_aload_n X.1 X.2.1 dX3_readToken_166 rfl (lv_at hl 0 rfl) ?_
        refine lv_aload_n X.1 X.2.1 dX3_readToken_167 rfl (lv_at hl 0 rfl) ?_
        refine gf_X3_65 X S (by decide) dX3_readToken_168 ?_
        refine lv_iconst (v := 1) X.1 X.2.1 dX3_readToken_171 (by decide) ?_
        refine lv_iadd X.1 X.2.1 dX3_readToken_172 ?_
        refine pf_X3_25 X S (by decide) dX3_readToken_173 (fun I_22 H locs eI_22 S => ?_)
        have h := pz_lt_e h eI_22
        cases h
        exact r_vret X S dX3_readToken_176
      have h := pz_f c_14 h
      refine lv_aload_n X.1 X.2.1 dX3_readToken_124 rfl (lv_at hl 0 rfl) ?_
      obtain ⟨q_23, eq_23, h⟩ := pz_bd_e h
      refine r_Vv X S (c_X3_readNumber eq_23) gd_X3_96 ⟨rfl, ny_X3_readNumber⟩ ⟨rfl, rfl⟩ ⟨Nat.le_of_ble_eq_true rfl, Nat.le_of_ble_eq_true rfl⟩ (r_recv X S (ly_ok_3 (by decide) S.2.2.2) rfl rfl) rfl rfl hl.1 (Nat.le_of_ble_eq_true rfl) dX3_readToken_125 (fun H locs S => ?_)
      refine lv_goto (tgt := 176) X.1 X.2.1 dX3_readToken_128 (by decide) ?_
      cases h
      exact r_vret X S dX3_readToken_176
    have h := pz_f c_11 h
    refine lv_aload_n X.1 X.2.1 dX3_readToken_102 rfl (lv_at hl 0 rfl) ?_
    obtain ⟨q_24, eq_24, h⟩ := pz_bd_e h
    refine r_Vv X S (c_X3_readWord eq_24) gd_X3_90 ⟨rfl, ny_X3_readWord⟩ ⟨rfl, rfl⟩ ⟨Nat.le_of_ble_eq_true rfl, Nat.le_of_ble_eq_true rfl⟩ (r_recv X S (ly_ok_3 (by decide) S.2.2.2) rfl rfl) rfl rfl hl.1 (Nat.le_of_ble_eq_true rfl) dX3_readToken_103 (fun H locs S => ?_)
    refine lv_goto (tgt := 176) X.1 X.2.1 dX3_readToken_106 (by decide) ?_
    cases h
    exact r_vret X S dX3_readToken_176
  have h := pz_f c_8 h
  refine lv_aload_n X.1 X.2.1 dX3_readToken_79 rfl (lv_at hl 0 rfl) ?_
  refine lv_iconst (v := 1) X.1 X.2.1 dX3_readToken_80 (by decide) ?_
  refine pf_X3_48 X S (by decide) dX3_readToken_81 (fun I_25 H locs eI_25 S => ?_)
  have h := pz_lt_e h eI_25
  refine lv_goto (tgt := 176) X.1 X.2.1 dX3_readToken_84 (by decide) ?_
  cases h
  exact r_vret X S dX3_readToken_176
def f_X3_readToken_L8 (N n : Nat) : Nat → mm_T → Option (mm_T)
  | 0, _ => none
  | cnt + 1, I => if (I 3 0 1) ≤ (I 3 0 8) then (f_X3_readToken_L60 N n I) else (pz_gd (ix_in (I 3 0 8) 160) <| if (I 18 0 (I 3 0 8).toNatClampNeg) = (32 : Int32) then (f_X3_readToken_L47 N n (f_X3_readToken_L8 N n cnt) I) else (pz_gd (ix_in (I 3 0 8) 160) <| if (I 18 0 (I 3 0 8).toNatClampNeg) = (10 : Int32) then (f_X3_readToken_L47 N n (f_X3_readToken_L8 N n cnt) I) else (f_X3_readToken_L60 N n I)))
set_option maxRecDepth 100000 in
set_option maxHeartbeats 4000000 in
theorem w_X3_readToken_L8 {l : Launch} {G : cx_T} {p : Program} {e : Env} {s : State} {m : MethodId} {args : Array Value} {below : List Frame} {meth : Method} {c : Code} {N n : Nat} {J : mm_T} (X : cx_ok G p s m args meth c cX3_readToken 1 RX3 none) (hn : 111 ≤ n) {z : mm_T} : ∀ (cnt : Nat) {I : mm_T} {H : Heap} {locs : List Loc} {ls : Array Slot} , f_X3_readToken_L8 N n cnt I = some z → st_ok G n I J s H locs → lv_has ls 1 [(0, .ref (cx_b G + ly_loc 3 0))] → W p l e ({ frames := 7, cells := 0, slots := 0, locals := 187 }) s m args below meth c H locs 0 0 (MQ below (ct_qv G n z J) args s 0 0 (cx_A G)) (F0 m 8 ls []) := by
  intro cnt
  induction cnt with
  | zero =>
    intro I H locs ls h
    rw [f_X3_readToken_L8] at h
    cases h
  | succ cnt ih =>
    intro I H locs ls h S hl
    rw [f_X3_readToken_L8] at h
    refine lv_aload_n X.1 X.2.1 dX3_readToken_8 rfl (lv_at hl 0 rfl) ?_
    refine gf_X3_65 X S (by decide) dX3_readToken_9 ?_
    refine lv_aload_n X.1 X.2.1 dX3_readToken_12 rfl (lv_at hl 0 rfl) ?_
    refine gf_X3_18 X S (by decide) dX3_readToken_13 ?_
    refine lv_icmp_ge (tgt := 60) X.1 X.2.1 dX3_readToken_16 (by decide) (fun c_2 => ?_) (fun c_2 => ?_)
    · have h := pz_t c_2 h
      exact w_X3_readToken_L60 X hn h S (lv_sub hl [0] rfl)
    have h := pz_f c_2 h
    refine lv_aload_n X.1 X.2.1 dX3_readToken_19 rfl (lv_at hl 0 rfl) ?_
    refine gf_X3_9 X S (by decide) dX3_readToken_20 ?_
    refine lv_aload_n X.1 X.2.1 dX3_readToken_23 rfl (lv_at hl 0 rfl) ?_
    refine gf_X3_65 X S (by decide) dX3_readToken_24 ?_
    obtain ⟨g_3, h⟩ := pz_gd_e h
    refine al_18 X S (by decide) g_3 dX3_readToken_27 ?_
    refine lv_bipush (v := 32) X.1 X.2.1 dX3_readToken_28 (by decide) ?_
    refine lv_icmp_eq (tgt := 47) X.1 X.2.1 dX3_readToken_30 (by decide) (fun c_4 => ?_) (fun c_4 => ?_)
    · have h := pz_t c_4 h
      exact w_X3_readToken_L47 X hn ih h S (lv_sub hl [0] rfl)
    have h := pz_f c_4 h
    refine lv_aload_n X.1 X.2.1 dX3_readToken_33 rfl (lv_at hl 0 rfl) ?_
    refine gf_X3_9 X S (by decide) dX3_readToken_34 ?_
    refine lv_aload_n X.1 X.2.1 dX3_readToken_37 rfl (lv_at hl 0 rfl) ?_
    refine gf_X3_65 X S (by decide) dX3_readToken_38 ?_
    obtain ⟨g_5, h⟩ := pz_gd_e h
    refine al_18 X S (by decide) g_5 dX3_readToken_41 ?_
    refine lv_bipush (v := 10) X.1 X.2.1 dX3_readToken_42 (by decide) ?_
    refine lv_icmp_ne (tgt := 60) X.1 X.2.1 dX3_readToken_44 (by decide) (fun c_6 => ?_) (fun c_6 => ?_)
    · have h := pz_f c_6 h
      exact w_X3_readToken_L60 X hn h S (lv_sub hl [0] rfl)
    have h := pz_t c_6 h
    exact w_X3_readToken_L47 X hn ih h S (lv_sub hl [0] rfl)
def f_X3_readToken (N n : Nat) (I : mm_T) : Option (mm_T) := pz_lt (mm_up I 3 0 8 (I 3 0 9)) fun I_1 => f_X3_readToken_L8 N n N I_1
set_option maxRecDepth 100000 in
set_option maxHeartbeats 4000000 in
theorem c_X3_readToken {l : Launch} {G : cx_T} {N n : Nat} {I J : mm_T} {z : mm_T} (h : f_X3_readToken N n I = some z) : ct_m l G n yX3_readToken cX3_readToken 1 none ({ frames := 7, cells := 0, slots := 0, locals := 187 }) [.ref (cx_b G + ly_loc 3 0)] I J (ct_qv G n z J) := by
  refine ct_en (by decide) (Nat.le_of_ble_eq_true rfl) ?_
  intro p e s m args below meth c ls X S hl
  have X : cx_ok G p s m args meth c cX3_readToken 1 RX3 none := X
  have hl : lv_has ls 1 [(0, .ref (cx_b G + ly_loc 3 0))] := hl
  have hn := S.2.2.2
  unfold f_X3_readToken at h
  refine lv_aload_n X.1 X.2.1 dX3_readToken_0 rfl (lv_at hl 0 rfl) ?_
  refine lv_aload_n X.1 X.2.1 dX3_readToken_1 rfl (lv_at hl 0 rfl) ?_
  refine gf_X3_25 X S (by decide) dX3_readToken_2 ?_
  refine pf_X3_65 X S (by decide) dX3_readToken_5 (fun I_1 H locs eI_1 S => ?_)
  have h := pz_lt_e h eI_1
  exact w_X3_readToken_L8 X hn N h S (lv_sub hl [0] rfl)
def f_X3_fail (N n : Nat) (I : mm_T) : Option (mm_T) := if (I 3 0 10) = (-1 : Int32) then (pz_lt (mm_up I 3 0 10 (I 3 0 8)) fun I_3 => pz_lt (mm_up I_3 3 0 6 (2 : Int32)) fun I_4 => some I_4) else (pz_lt (mm_up I 3 0 6 (2 : Int32)) fun I_2 => some I_2)
set_option maxRecDepth 100000 in
set_option maxHeartbeats 4000000 in
theorem c_X3_fail {l : Launch} {G : cx_T} {N n : Nat} {I J : mm_T} {z : mm_T} (h : f_X3_fail N n I = some z) : ct_m l G n yX3_fail cX3_fail 1 none ({ frames := 0, cells := 0, slots := 0, locals := 0 }) [.ref (cx_b G + ly_loc 3 0)] I J (ct_qv G n z J) := by
  refine ct_en (by decide) (Nat.le_of_ble_eq_true rfl) ?_
  intro p e s m args below meth c ls X S hl
  have X : cx_ok G p s m args meth c cX3_fail 1 RX3 none := X
  have hl : lv_has ls 1 [(0, .ref (cx_b G + ly_loc 3 0))] := hl
  have hn := S.2.2.2
  unfold f_X3_fail at h
  refine lv_aload_n X.1 X.2.1 dX3_fail_0 rfl (lv_at hl 0 rfl) ?_
  refine gf_X3_28 X S (by decide) dX3_fail_1 ?_
  refine lv_iconst (v := -1) X.1 X.2.1 dX3_fail_4 (by decide) ?_
  refine lv_icmp_ne (tgt := 16) X.1 X.2.1 dX3_fail_5 (by decide) (fun c_1 => ?_) (fun c_1 => ?_)
  · have h := pz_f c_1 h
    refine lv_aload_n X.1 X.2.1 dX3_fail_16 rfl (lv_at hl 0 rfl) ?_
    refine lv_iconst (v := 2) X.1 X.2.1 dX3_fail_17 (by decide) ?_
    refine pf_X3_48 X S (by decide) dX3_fail_18 (fun I_2 H locs eI_2 S => ?_)
    have h := pz_lt_e h eI_2
    cases h
    exact r_vret X S dX3_fail_21
  have h := pz_t c_1 h
  refine lv_aload_n X.1 X.2.1 dX3_fail_8 rfl (lv_at hl 0 rfl) ?_
  refine lv_aload_n X.1 X.2.1 dX3_fail_9 rfl (lv_at hl 0 rfl) ?_
  refine gf_X3_65 X S (by decide) dX3_fail_10 ?_
  refine pf_X3_28 X S (by decide) dX3_fail_13 (fun I_3 H locs eI_3 S => ?_)
  have h := pz_lt_e h eI_3
  refine lv_aload_n X.1 X.2.1 dX3_fail_16 rfl (lv_at hl 0 rfl) ?_
  refine lv_iconst (v := 2) X.1 X.2.1 dX3_fail_17 (by decide) ?_
  refine pf_X3_48 X S (by decide) dX3_fail_18 (fun I_4 H locs eI_4 S => ?_)
  have h := pz_lt_e h eI_4
  cases h
  exact r_vret X S dX3_fail_21
def f_X3_pass (N n : Nat) (I : mm_T) (p1 : Int32) : Option (mm_T) := if (I 3 0 6) = p1 then (pz_bd (f_X3_readToken N n I) fun q_3 => some q_3) else (pz_bd (f_X3_fail N n I) fun q_2 => some q_2)
set_option maxRecDepth 100000 in
set_option maxHeartbeats 4000000 in
theorem c_X3_pass {l : Launch} {G : cx_T} {N n : Nat} {I J : mm_T} {p1 : Int32} {z : mm_T} (h : f_X3_pass N n I p1 = some z) : ct_m l G n yX3_pass cX3_pass 2 none ({ frames := 8, cells := 0, slots := 0, locals := 207 }) [.ref (cx_b G + ly_loc 3 0), .int p1] I J (ct_qv G n z J) := by
  refine ct_en (by decide) (Nat.le_of_ble_eq_true rfl) ?_
  intro p e s m args below meth c ls X S hl
  have X : cx_ok G p s m args meth c cX3_pass 2 RX3 none := X
  have hl : lv_has ls 2 [(0, .ref (cx_b G + ly_loc 3 0)), (1, .int p1)] := hl
  have hn := S.2.2.2
  unfold f_X3_pass at h
  refine lv_aload_n X.1 X.2.1 dX3_pass_0 rfl (lv_at hl 0 rfl) ?_
  refine gf_X3_48 X S (by decide) dX3_pass_1 ?_
  refine lv_iload_n X.1 X.2.1 dX3_pass_4 rfl (lv_at hl 1 rfl) ?_
  refine lv_icmp_ne (tgt := 15) X.1 X.2.1 dX3_pass_5 (by decide) (fun c_1 => ?_) (fun c_1 => ?_)
  · have h := pz_f c_1 h
    refine lv_aload_n X.1 X.2.1 dX3_pass_15 rfl (lv_at hl 0 rfl) ?_
    obtain ⟨q_2, eq_2, h⟩ := pz_bd_e h
    refine r_Vv X S (c_X3_fail eq_2) gd_X3_51 ⟨rfl, ny_X3_fail⟩ ⟨rfl, rfl⟩ ⟨Nat.le_of_ble_eq_true rfl, Nat.le_of_ble_eq_true rfl⟩ (r_recv X S (ly_ok_3 (by decide) S.2.2.2) rfl rfl) rfl rfl hl.1 (Nat.le_of_ble_eq_true rfl) dX3_pass_16 (fun H locs S => ?_)
    cases h
    exact r_vret X S dX3_pass_19
  have h := pz_t c_1 h
  refine lv_aload_n X.1 X.2.1 dX3_pass_8 rfl (lv_at hl 0 rfl) ?_
  obtain ⟨q_3, eq_3, h⟩ := pz_bd_e h
  refine r_Vv X S (c_X3_readToken eq_3) gd_X3_31 ⟨rfl, ny_X3_readToken⟩ ⟨rfl, rfl⟩ ⟨Nat.le_of_ble_eq_true rfl, Nat.le_of_ble_eq_true rfl⟩ (r_recv X S (ly_ok_3 (by decide) S.2.2.2) rfl rfl) rfl rfl hl.1 (Nat.le_of_ble_eq_true rfl) dX3_pass_9 (fun H locs S => ?_)
  refine lv_goto (tgt := 19) X.1 X.2.1 dX3_pass_12 (by decide) ?_
  cases h
  exact r_vret X S dX3_pass_19
def f_X3_joins (N n : Nat) (I : mm_T) (p1 : Int32) : Option (Int32) := pz_lt p1 fun x_1 => if x_1 = (0 : Int32) then (if (I 3 0 6) = (110 : Int32) then (some (1 : Int32)) else (some (0 : Int32))) else if x_1 = (1 : Int32) then (if (I 3 0 6) = (111 : Int32) then (some (1 : Int32)) else (some (0 : Int32))) else if x_1 = (2 : Int32) then (if (I 3 0 6) = (60 : Int32) then (some (1 : Int32)) else (if (I 3 0 6) = (61 : Int32) then (some (1 : Int32)) else (some (0 : Int32)))) else if x_1 = (3 : Int32) then (if (I 3 0 6) = (43 : Int32) then (some (1 : Int32)) else (if (I 3 0 6) = (45 : Int32) then (some (1 : Int32)) else (some (0 : Int32)))) else (if (I 3 0 6) = (42 : Int32) then (some (1 : Int32)) else (some (0 : Int32)))
set_option maxRecDepth 100000 in
set_option maxHeartbeats 4000000 in
theorem c_X3_joins {l : Launch} {G : cx_T} {N n : Nat} {I J : mm_T} {p1 : Int32} {z : Int32} (h : f_X3_joins N n I p1 = some z) : ct_m l G n yX3_joins cX3_joins 2 (some .boolean) ({ frames := 0, cells := 0, slots := 0, locals := 0 }) [.ref (cx_b G + ly_loc 3 0), .int p1] I J (ct_qi G n I J z) := by
  refine ct_en (by decide) (Nat.le_of_ble_eq_true rfl) ?_
  intro p e s m args below meth c ls X S hl
  have X : cx_ok G p s m args meth c cX3_joins 2 RX3 (some .boolean) := X
  have hl : lv_has ls 2 [(0, .ref (cx_b G + ly_loc 3 0)), (1, .int p1)] := hl
  have hn := S.2.2.2
  unfold f_X3_joins at h
  refine lv_iload_n X.1 X.2.1 dX3_joins_0 rfl (lv_at hl 1 rfl) ?_
  refine lv_topi (fun x_1 ex_1 => ?_)
  have h := pz_lt_e h ex_1
  rcases Decidable.em (x_1 = (0 : Int32)) with c_2 | c_2
  · have h := pz_t c_2 h
    refine lv_tableIn (off := 31) (tgt := 32) X.1 X.2.1 dX3_joins_1 (by rw [c_2]; decide +kernel) (by rw [c_2]; decide +kernel) (by rw [c_2]; decide +kernel) (by decide) ?_
    refine lv_aload_n X.1 X.2.1 dX3_joins_32 rfl (lv_at hl 0 rfl) ?_
    refine gf_X3_48 X S (by decide) dX3_joins_33 ?_
    refine lv_bipush (v := 110) X.1 X.2.1 dX3_joins_36 (by decide) ?_
    refine lv_icmp_ne (tgt := 45) X.1 X.2.1 dX3_joins_38 (by decide) (fun c_3 => ?_) (fun c_3 => ?_)
    · have h := pz_f c_3 h
      refine lv_iconst (v := 0) X.1 X.2.1 dX3_joins_45 (by decide) ?_
      cases h
      exact r_zret (v := 0) X S rfl dX3_joins_46
    have h := pz_t c_3 h
    refine lv_iconst (v := 1) X.1 X.2.1 dX3_joins_41 (by decide) ?_
    refine lv_goto (tgt := 46) X.1 X.2.1 dX3_joins_42 (by decide) ?_
    cases h
    exact r_zret (v := 1) X S rfl dX3_joins_46
  have h := pz_f c_2 h
  rcases Decidable.em (x_1 = (1 : Int32)) with c_4 | c_4
  · have h := pz_t c_4 h
    refine lv_tableIn (off := 46) (tgt := 47) X.1 X.2.1 dX3_joins_1 (by rw [c_4]; decide +kernel) (by rw [c_4]; decide +kernel) (by rw [c_4]; decide +kernel) (by decide) ?_
    refine lv_aload_n X.1 X.2.1 dX3_joins_47 rfl (lv_at hl 0 rfl) ?_
    refine gf_X3_48 X S (by decide) dX3_joins_48 ?_
    refine lv_bipush (v := 111) X.1 X.2.1 dX3_joins_51 (by decide) ?_
    refine lv_icmp_ne (tgt := 60) X.1 X.2.1 dX3_joins_53 (by decide) (fun c_5 => ?_) (fun c_5 => ?_)
    · have h := pz_f c_5 h
      refine lv_iconst (v := 0) X.1 X.2.1 dX3_joins_60 (by decide) ?_
      cases h
      exact r_zret (v := 0) X S rfl dX3_joins_61
    have h := pz_t c_5 h
    refine lv_iconst (v := 1) X.1 X.2.1 dX3_joins_56 (by decide) ?_
    refine lv_goto (tgt := 61) X.1 X.2.1 dX3_joins_57 (by decide) ?_
    cases h
    exact r_zret (v := 1) X S rfl dX3_joins_61
  have h := pz_f c_4 h
  rcases Decidable.em (x_1 = (2 : Int32)) with c_6 | c_6
  · have h := pz_t c_6 h
    refine lv_tableIn (off := 61) (tgt := 62) X.1 X.2.1 dX3_joins_1 (by rw [c_6]; decide +kernel) (by rw [c_6]; decide +kernel) (by rw [c_6]; decide +kernel) (by decide) ?_
    refine lv_aload_n X.1 X.2.1 dX3_joins_62 rfl (lv_at hl 0 rfl) ?_
    refine gf_X3_48 X S (by decide) dX3_joins_63 ?_
    refine lv_bipush (v := 60) X.1 X.2.1 dX3_joins_66 (by decide) ?_
    refine lv_icmp_eq (tgt := 80) X.1 X.2.1 dX3_joins_68 (by decide) (fun c_7 => ?_) (fun c_7 => ?_)
    · have h := pz_t c_7 h
      refine lv_iconst (v := 1) X.1 X.2.1 dX3_joins_80 (by decide) ?_
      refine lv_goto (tgt := 85) X.1 X.2.1 dX3_joins_81 (by decide) ?_
      cases h
      exact r_zret (v := 1) X S rfl dX3_joins_85
    have h := pz_f c_7 h
    refine lv_aload_n X.1 X.2.1 dX3_joins_71 rfl (lv_at hl 0 rfl) ?_
    refine gf_X3_48 X S (by decide) dX3_joins_72 ?_
    refine lv_bipush (v := 61) X.1 X.2.1 dX3_joins_75 (by decide) ?_
    refine lv_icmp_ne (tgt := 84) X.1 X.2.1 dX3_joins_77 (by decide) (fun c_8 => ?_) (fun c_8 => ?_)
    · have h := pz_f c_8 h
      refine lv_iconst (v := 0) X.1 X.2.1 dX3_joins_84 (by decide) ?_
      cases h
      exact r_zret (v := 0) X S rfl dX3_joins_85
    have h := pz_t c_8 h
    refine lv_iconst (v := 1) X.1 X.2.1 dX3_joins_80 (by decide) ?_
    refine lv_goto (tgt := 85) X.1 X.2.1 dX3_joins_81 (by decide) ?_
    cases h
    exact r_zret (v := 1) X S rfl dX3_joins_85
  have h := pz_f c_6 h
  rcases Decidable.em (x_1 = (3 : Int32)) with c_9 | c_9
  · have h := pz_t c_9 h
    refine lv_tableIn (off := 85) (tgt := 86) X.1 X.2.1 dX3_joins_1 (by rw [c_9]; decide +kernel) (by rw [c_9]; decide +kernel) (by rw [c_9]; decide +kernel) (by decide) ?_
    refine lv_aload_n X.1 X.2.1 dX3_joins_86 rfl (lv_at hl 0 rfl) ?_
    refine gf_X3_48 X S (by decide) dX3_joins_87 ?_
    refine lv_bipush (v := 43) X.1 X.2.1 dX3_joins_90 (by decide) ?_
    refine lv_icmp_eq (tgt := 104) X.1 X.2.1 dX3_joins_92 (by decide) (fun c_10 => ?_) (fun c_10 => ?_)
    · have h := pz_t c_10 h
      refine lv_iconst (v := 1) X.1 X.2.1 dX3_joins_104 (by decide) ?_
      refine lv_goto (tgt := 109) X.1 X.2.1 dX3_joins_105 (by decide) ?_
      cases h
      exact r_zret (v := 1) X S rfl dX3_joins_109
    have h := pz_f c_10 h
    refine lv_aload_n X.1 X.2.1 dX3_joins_95 rfl (lv_at hl 0 rfl) ?_
    refine gf_X3_48 X S (by decide) dX3_joins_96 ?_
    refine lv_bipush (v := 45) X.1 X.2.1 dX3_joins_99 (by decide) ?_
    refine lv_icmp_ne (tgt := 108) X.1 X.2.1 dX3_joins_101 (by decide) (fun c_11 => ?_) (fun c_11 => ?_)
    · have h := pz_f c_11 h
      refine lv_iconst (v := 0) X.1 X.2.1 dX3_joins_108 (by decide) ?_
      cases h
      exact r_zret (v := 0) X S rfl dX3_joins_109
    have h := pz_t c_11 h
    refine lv_iconst (v := 1) X.1 X.2.1 dX3_joins_104 (by decide) ?_
    refine lv_goto (tgt := 109) X.1 X.2.1 dX3_joins_105 (by decide) ?_
    cases h
    exact r_zret (v := 1) X S rfl dX3_joins_109
  have h := pz_f c_9 h
  refine lv_tableOut (tgt := 110) X.1 X.2.1 dX3_joins_1 (pz_out 0 3 [(0 : Int32), (1 : Int32), (2 : Int32), (3 : Int32)] (by decide +kernel) (by simp only [List.forall_mem_cons, List.not_mem_nil, false_imp_iff, implies_true, and_true]; exact ⟨c_2, c_4, c_6, c_9⟩)) (by decide) ?_
  refine lv_aload_n X.1 X.2.1 dX3_joins_110 rfl (lv_at hl 0 rfl) ?_
  refine gf_X3_48 X S (by decide) dX3_joins_111 ?_
  refine lv_bipush (v := 42) X.1 X.2.1 dX3_joins_114 (by decide) ?_
  refine lv_icmp_ne (tgt := 123) X.1 X.2.1 dX3_joins_116 (by decide) (fun c_12 => ?_) (fun c_12 => ?_)
  · have h := pz_f c_12 h
    refine lv_iconst (v := 0) X.1 X.2.1 dX3_joins_123 (by decide) ?_
    cases h
    exact r_zret (v := 0) X S rfl dX3_joins_124
  have h := pz_t c_12 h
  refine lv_iconst (v := 1) X.1 X.2.1 dX3_joins_119 (by decide) ?_
  refine lv_goto (tgt := 124) X.1 X.2.1 dX3_joins_120 (by decide) ?_
  cases h
  exact r_zret (v := 1) X S rfl dX3_joins_124
def f_X3_emit (N n : Nat) (I : mm_T) (p1 : Int32) : Option (mm_T) := if (160 : Int32) ≤ (I 3 0 3) then (some I) else (pz_gd (ix_in (I 3 0 3) 160) <| pz_lt (mm_up I 19 0 (I 3 0 3).toNatClampNeg p1) fun I_3 => pz_lt (mm_up I_3 3 0 3 ((I_3 3 0 3) + (1 : Int32))) fun I_4 => some I_4)
set_option maxRecDepth 100000 in
set_option maxHeartbeats 4000000 in
theorem c_X3_emit {l : Launch} {G : cx_T} {N n : Nat} {I J : mm_T} {p1 : Int32} {z : mm_T} (h : f_X3_emit N n I p1 = some z) : ct_m l G n yX3_emit cX3_emit 2 none ({ frames := 0, cells := 0, slots := 0, locals := 0 }) [.ref (cx_b G + ly_loc 3 0), .int p1] I J (ct_qv G n z J) := by
  refine ct_en (by decide) (Nat.le_of_ble_eq_true rfl) ?_
  intro p e s m args below meth c ls X S hl
  have X : cx_ok G p s m args meth c cX3_emit 2 RX3 none := X
  have hl : lv_has ls 2 [(0, .ref (cx_b G + ly_loc 3 0)), (1, .int p1)] := hl
  have hn := S.2.2.2
  unfold f_X3_emit at h
  refine lv_aload_n X.1 X.2.1 dX3_emit_0 rfl (lv_at hl 0 rfl) ?_
  refine gf_X3_22 X S (by decide) dX3_emit_1 ?_
  refine lv_sipush (v := 160) X.1 X.2.1 dX3_emit_4 (by decide) ?_
  refine lv_icmp_ge (tgt := 30) X.1 X.2.1 dX3_emit_7 (by decide) (fun c_1 => ?_) (fun c_1 => ?_)
  · have h := pz_t c_1 h
    cases h
    exact r_vret X S dX3_emit_30
  have h := pz_f c_1 h
  refine lv_aload_n X.1 X.2.1 dX3_emit_10 rfl (lv_at hl 0 rfl) ?_
  refine gf_X3_15 X S (by decide) dX3_emit_11 ?_
  refine lv_aload_n X.1 X.2.1 dX3_emit_14 rfl (lv_at hl 0 rfl) ?_
  refine gf_X3_22 X S (by decide) dX3_emit_15 ?_
  refine lv_iload_n X.1 X.2.1 dX3_emit_18 rfl (lv_at hl 1 rfl) ?_
  obtain ⟨g_2, h⟩ := pz_gd_e h
  refine as_19 X S (by decide) g_2 dX3_emit_19 (fun I_3 H locs eI_3 S => ?_)
  have h := pz_lt_e h eI_3
  refine lv_aload_n X.1 X.2.1 dX3_emit_20 rfl (lv_at hl 0 rfl) ?_
  refine lv_dup X.1 X.2.1 dX3_emit_21 rfl ?_
  refine gf_X3_22 X S (by decide) dX3_emit_22 ?_
  refine lv_iconst (v := 1) X.1 X.2.1 dX3_emit_25 (by decide) ?_
  refine lv_iadd X.1 X.2.1 dX3_emit_26 ?_
  refine pf_X3_22 X S (by decide) dX3_emit_27 (fun I_4 H locs eI_4 S => ?_)
  have h := pz_lt_e h eI_4
  cases h
  exact r_vret X S dX3_emit_30
def f_X3_isName (N : Nat) (p1 : Int32) : Option (Int32) := if p1 < (101 : Int32) then (some (0 : Int32)) else (if (106 : Int32) < p1 then (some (0 : Int32)) else (some (1 : Int32)))
set_option maxRecDepth 100000 in
set_option maxHeartbeats 4000000 in
theorem c_X3_isName {l : Launch} {G : cx_T} {N n : Nat} {I J : mm_T} {p1 : Int32} {z : Int32} (h : f_X3_isName N p1 = some z) : ct_m l G n yX3_isName cX3_isName 1 (some .boolean) ({ frames := 0, cells := 0, slots := 0, locals := 0 }) [.int p1] I J (ct_qi G n I J z) := by
  refine ct_en (by decide) (Nat.le_of_ble_eq_true rfl) ?_
  intro p e s m args below meth c ls X S hl
  have X : cx_ok G p s m args meth c cX3_isName 1 RX3 (some .boolean) := X
  have hl : lv_has ls 1 [(0, .int p1)] := hl
  have hn := S.2.2.2
  unfold f_X3_isName at h
  refine lv_iload_n X.1 X.2.1 dX3_isName_0 rfl (lv_at hl 0 rfl) ?_
  refine lv_bipush (v := 101) X.1 X.2.1 dX3_isName_1 (by decide) ?_
  refine lv_icmp_lt (tgt := 16) X.1 X.2.1 dX3_isName_3 (by decide) (fun c_1 => ?_) (fun c_1 => ?_)
  · have h := pz_t c_1 h
    refine lv_iconst (v := 0) X.1 X.2.1 dX3_isName_16 (by decide) ?_
    cases h
    exact r_zret (v := 0) X S rfl dX3_isName_17
  have h := pz_f c_1 h
  refine lv_iload_n X.1 X.2.1 dX3_isName_6 rfl (lv_at hl 0 rfl) ?_
  refine lv_bipush (v := 106) X.1 X.2.1 dX3_isName_7 (by decide) ?_
  refine lv_icmp_gt (tgt := 16) X.1 X.2.1 dX3_isName_9 (by decide) (fun c_2 => ?_) (fun c_2 => ?_)
  · have h := pz_t c_2 h
    refine lv_iconst (v := 0) X.1 X.2.1 dX3_isName_16 (by decide) ?_
    cases h
    exact r_zret (v := 0) X S rfl dX3_isName_17
  have h := pz_f c_2 h
  refine lv_iconst (v := 1) X.1 X.2.1 dX3_isName_12 (by decide) ?_
  refine lv_goto (tgt := 17) X.1 X.2.1 dX3_isName_13 (by decide) ?_
  cases h
  exact r_zret (v := 1) X S rfl dX3_isName_17
def f_X3_readLevel_L55 (N n : Nat) (rc : Nat → mm_T → Int32 → Int32 → Option (mm_T)) (p1 : Int32) (p2 : Int32) : Nat → mm_T → Int32 → Int32 → Int32 → Int32 → Option (mm_T)
  | 0, _, _, _, _, _ => none
  | cnt + 1, I, a1, a2, a3, a4 => if a3 ≤ a4 then (some I) else (pz_bd (f_X3_joins N n I a1) fun q_9 => if q_9 = 0 then (some I) else (pz_lt (I 3 0 6) fun x_11 => pz_bd (f_X3_readToken N n I) fun q_12 => pz_bd (rc 0 q_12 (a1 + (1 : Int32)) a2) fun q_13 => pz_bd (f_X3_emit N n q_13 (-x_11)) fun q_14 => pz_lt (a4 + (1 : Int32)) fun x_15 => f_X3_readLevel_L55 N n rc p1 p2 cnt q_14 a1 a2 a3 x_15))
set_option maxRecDepth 100000 in
set_option maxHeartbeats 4000000 in
theorem w_X3_readLevel_L55 {l : Launch} {G : cx_T} {p : Program} {e : Env} {s : State} {m : MethodId} {args : Array Value} {below : List Frame} {meth : Method} {c : Code} {N n : Nat} {d : Nat} {rc : Nat → mm_T → Int32 → Int32 → Option (mm_T)} {J : mm_T} {p1 : Int32} {p2 : Int32} (X : cx_ok G p s m args meth c cX3_readLevel 6 RX3 none) (hn : 111 ≤ n) (hrc_X3_readLevel : ∀ {I J : mm_T} {p1 : Int32} {p2 : Int32} {z : mm_T}, rc 0 I p1 p2 = some z → ct_m l G n yX3_readLevel cX3_readLevel 6 none ({ frames := 8 + d, cells := 0, slots := 0, locals := 207 + 40 * d }) [.ref (cx_b G + ly_loc 3 0), .int p1, .int p2] I J (ct_qv G n z J)) (hrc_X3_readNot : ∀ {I J : mm_T} {p1 : Int32} {z : mm_T}, rc 1 I p1 0 = some z → ct_m l G n yX3_readNot cX3_readNot 2 none ({ frames := 8 + d, cells := 0, slots := 0, locals := 207 + 40 * d }) [.ref (cx_b G + ly_loc 3 0), .int p1] I J (ct_qv G n z J)) (hrc_X3_readOne : ∀ {I J : mm_T} {p1 : Int32} {z : mm_T}, rc 2 I p1 0 = some z → ct_m l G n yX3_readOne cX3_readOne 2 none ({ frames := 8 + d, cells := 0, slots := 0, locals := 207 + 40 * d }) [.ref (cx_b G + ly_loc 3 0), .int p1] I J (ct_qv G n z J)) {z : mm_T} : ∀ (cnt : Nat) {I : mm_T} {a1 : Int32} {a2 : Int32} {a3 : Int32} {a4 : Int32} {H : Heap} {locs : List Loc} {ls : Array Slot} , f_X3_readLevel_L55 N n rc p1 p2 cnt I a1 a2 a3 a4 = some z → st_ok G n I J s H locs → lv_has ls 6 [(0, .ref (cx_b G + ly_loc 3 0)), (1, .int a1), (2, .int a2), (3, .int a3), (4, .int a4)] → W p l e ({ frames := 8 + (d + 1), cells := 0, slots := 0, locals := 207 + 40 * (d + 1) }) s m args below meth c H locs 0 0 (MQ below (ct_qv G n z J) args s 0 0 (cx_A G)) (F0 m 55 ls []) := by
  intro cnt
  induction cnt with
  | zero =>
    intro I a1 a2 a3 a4 H locs ls h
    rw [f_X3_readLevel_L55] at h
    cases h
  | succ cnt ih =>
    intro I a1 a2 a3 a4 H locs ls h S hl
    rw [f_X3_readLevel_L55] at h
    refine lv_iload X.1 X.2.1 dX3_readLevel_55 (lv_at hl 4 rfl) ?_
    refine lv_iload_n X.1 X.2.1 dX3_readLevel_57 rfl (lv_at hl 3 rfl) ?_
    refine lv_icmp_ge (tgt := 100) X.1 X.2.1 dX3_readLevel_58 (by decide) (fun c_8 => ?_) (fun c_8 => ?_)
    · have h := pz_t c_8 h
      cases h
      exact r_vret X S dX3_readLevel_100
    have h := pz_f c_8 h
    refine lv_aload_n X.1 X.2.1 dX3_readLevel_61 rfl (lv_at hl 0 rfl) ?_
    refine lv_iload_n X.1 X.2.1 dX3_readLevel_62 rfl (lv_at hl 1 rfl) ?_
    obtain ⟨q_9, eq_9, h⟩ := pz_bd_e h
    refine r_Vi X S (c_X3_joins eq_9) gd_X3_74 ⟨rfl, ny_X3_joins⟩ ⟨rfl, rfl⟩ ⟨by dsimp only; omega, by dsimp only; omega⟩ (r_recv X S (ly_ok_3 (by decide) S.2.2.2) rfl rfl) rfl rfl hl.1 (Nat.le_of_ble_eq_true rfl) dX3_readLevel_63 (fun H locs S => ?_)
    refine lv_if_eq (tgt := 100) X.1 X.2.1 dX3_readLevel_66 (by decide) (fun c_10 => ?_) (fun c_10 => ?_)
    · have h := pz_t c_10 h
      cases h
      exact r_vret X S dX3_readLevel_100
    have h := pz_f c_10 h
    refine lv_aload_n X.1 X.2.1 dX3_readLevel_69 rfl (lv_at hl 0 rfl) ?_
    refine gf_X3_48 X S (by decide) dX3_readLevel_70 ?_
    refine lv_topi (fun x_11 ex_11 => ?_)
    have h := pz_lt_e h ex_11
    refine lv_istore (lv' := [(5, .int x_11), (0, .ref (cx_b G + ly_loc 3 0)), (1, .int a1), (2, .int a2), (3, .int a3), (4, .int a4)]) X.1 X.2.1 dX3_readLevel_73 hl (by decide) rfl (fun ls hl => ?_)
    refine lv_aload_n X.1 X.2.1 dX3_readLevel_75 rfl (lv_at hl 1 rfl) ?_
    obtain ⟨q_12, eq_12, h⟩ := pz_bd_e h
    refine r_Vv X S (c_X3_readToken eq_12) gd_X3_31 ⟨rfl, ny_X3_readToken⟩ ⟨rfl, rfl⟩ ⟨by dsimp only; omega, by dsimp only; omega⟩ (r_recv X S (ly_ok_3 (by decide) S.2.2.2) rfl rfl) rfl rfl hl.1 (Nat.le_of_ble_eq_true rfl) dX3_readLevel_76 (fun H locs S => ?_)
    refine lv_aload_n X.1 X.2.1 dX3_readLevel_79 rfl (lv_at hl 1 rfl) ?_
    refine lv_iload_n X.1 X.2.1 dX3_readLevel_80 rfl (lv_at hl 2 rfl) ?_
    refine lv_iconst (v := 1) X.1 X.2.1 dX3_readLevel_81 (by decide) ?_
    refine lv_iadd X.1 X.2.1 dX3_readLevel_82 ?_
    refine lv_iload_n X.1 X.2.1 dX3_readLevel_83 rfl (lv_at hl 3 rfl) ?_
    obtain ⟨q_13, eq_13, h⟩ := pz_bd_e h
    refine r_Vv X S (hrc_X3_readLevel eq_13) gd_X3_38 ⟨rfl, ny_X3_readLevel⟩ ⟨rfl, rfl⟩ ⟨by dsimp only; omega, by dsimp only; omega⟩ (r_recv X S (ly_ok_3 (by decide) S.2.2.2) rfl rfl) rfl rfl hl.1 (Nat.le_of_ble_eq_true rfl) dX3_readLevel_84 (fun H locs S => ?_)
    refine lv_aload_n X.1 X.2.1 dX3_readLevel_87 rfl (lv_at hl 1 rfl) ?_
    refine lv_iload X.1 X.2.1 dX3_readLevel_88 (lv_at hl 0 rfl) ?_
    refine lv_ineg X.1 X.2.1 dX3_readLevel_90 ?_
    obtain ⟨q_14, eq_14, h⟩ := pz_bd_e h
    refine r_Vv X S (c_X3_emit eq_14) gd_X3_78 ⟨rfl, ny_X3_emit⟩ ⟨rfl, rfl⟩ ⟨by dsimp only; omega, by dsimp only; omega⟩ (r_recv X S (ly_ok_3 (by decide) S.2.2.2) rfl rfl) rfl rfl hl.1 (Nat.le_of_ble_eq_true rfl) dX3_readLevel_91 (fun H locs S => ?_)
    obtain ⟨x_15, ex_15⟩ : ∃ y : Int32, y = (a4 + (1 : Int32)) := ⟨_, rfl⟩
    have h := pz_lt_e h ex_15
    refine lv_iinc (v := x_15) (lv' := [(4, .int x_15), (5, .int x_11), (0, .ref (cx_b G + ly_loc 3 0)), (1, .int a1), (2, .int a2), (3, .int a3)]) X.1 X.2.1 dX3_readLevel_94 hl (k := 5) rfl (by rw [ex_15]; rfl) (by decide) rfl (fun ls hl => ?_)
    refine lv_goto (tgt := 55) X.1 X.2.1 dX3_readLevel_97 (by decide) ?_
    exact ih h S (lv_sub hl [2, 3, 4, 5, 0] rfl)
def f_X3_readLevel_L51 (N n : Nat) (rc : Nat → mm_T → Int32 → Int32 → Option (mm_T)) (p1 : Int32) (p2 : Int32) (I : mm_T) (a1 : Int32) (a2 : Int32) (s0 : Int32) : Option (mm_T) := f_X3_readLevel_L55 N n rc p1 p2 N I a1 a2 s0 (0 : Int32)
set_option maxRecDepth 100000 in
set_option maxHeartbeats 4000000 in
theorem w_X3_readLevel_L51 {l : Launch} {G : cx_T} {p : Program} {e : Env} {s : State} {m : MethodId} {args : Array Value} {below : List Frame} {meth : Method} {c : Code} {N n : Nat} {d : Nat} {rc : Nat → mm_T → Int32 → Int32 → Option (mm_T)} {J : mm_T} {p1 : Int32} {p2 : Int32} (X : cx_ok G p s m args meth c cX3_readLevel 6 RX3 none) (hn : 111 ≤ n) (hrc_X3_readLevel : ∀ {I J : mm_T} {p1 : Int32} {p2 : Int32} {z : mm_T}, rc 0 I p1 p2 = some z → ct_m l G n yX3_readLevel cX3_readLevel 6 none ({ frames := 8 + d, cells := 0, slots := 0, locals := 207 + 40 * d }) [.ref (cx_b G + ly_loc 3 0), .int p1, .int p2] I J (ct_qv G n z J)) (hrc_X3_readNot : ∀ {I J : mm_T} {p1 : Int32} {z : mm_T}, rc 1 I p1 0 = some z → ct_m l G n yX3_readNot cX3_readNot 2 none ({ frames := 8 + d, cells := 0, slots := 0, locals := 207 + 40 * d }) [.ref (cx_b G + ly_loc 3 0), .int p1] I J (ct_qv G n z J)) (hrc_X3_readOne : ∀ {I J : mm_T} {p1 : Int32} {z : mm_T}, rc 2 I p1 0 = some z → ct_m l G n yX3_readOne cX3_readOne 2 none ({ frames := 8 + d, cells := 0, slots := 0, locals := 207 + 40 * d }) [.ref (cx_b G + ly_loc 3 0), .int p1] I J (ct_qv G n z J)) {z : mm_T} {I : mm_T} {a1 : Int32} {a2 : Int32} {s0 : Int32} {H : Heap} {locs : List Loc} {ls : Array Slot} (h : f_X3_readLevel_L51 N n rc p1 p2 I a1 a2 s0 = some z) (S : st_ok G n I J s H locs) (hl : lv_has ls 6 [(0, .ref (cx_b G + ly_loc 3 0)), (1, .int a1), (2, .int a2)]) : W p l e ({ frames := 8 + (d + 1), cells := 0, slots := 0, locals := 207 + 40 * (d + 1) }) s m args below meth c H locs 0 0 (MQ below (ct_qv G n z J) args s 0 0 (cx_A G)) (F0 m 51 ls [.int s0]) := by
  unfold f_X3_readLevel_L51 at h
  refine lv_istore_n (lv' := [(3, .int s0), (0, .ref (cx_b G + ly_loc 3 0)), (1, .int a1), (2, .int a2)]) X.1 X.2.1 dX3_readLevel_51 rfl hl (by decide) rfl (fun ls hl => ?_)
  refine lv_iconst (v := 0) X.1 X.2.1 dX3_readLevel_52 (by decide) ?_
  refine lv_istore (lv' := [(4, .int (0 : Int32)), (3, .int s0), (0, .ref (cx_b G + ly_loc 3 0)), (1, .int a1), (2, .int a2)]) X.1 X.2.1 dX3_readLevel_53 hl (by decide) rfl (fun ls hl => ?_)
  exact w_X3_readLevel_L55 X hn hrc_X3_readLevel hrc_X3_readNot hrc_X3_readOne N h S (lv_sub hl [2, 3, 4, 1, 0] rfl)
def f_X3_readLevel_L31 (N n : Nat) (rc : Nat → mm_T → Int32 → Int32 → Option (mm_T)) (p1 : Int32) (p2 : Int32) (I : mm_T) (a1 : Int32) (a2 : Int32) : Option (mm_T) := pz_bd (rc 0 I (a1 + (1 : Int32)) a2) fun q_6 => if a1 = (2 : Int32) then (f_X3_readLevel_L51 N n rc p1 p2 q_6 a1 a2 (1 : Int32)) else (f_X3_readLevel_L51 N n rc p1 p2 q_6 a1 a2 (160 : Int32))
set_option maxRecDepth 100000 in
set_option maxHeartbeats 4000000 in
theorem w_X3_readLevel_L31 {l : Launch} {G : cx_T} {p : Program} {e : Env} {s : State} {m : MethodId} {args : Array Value} {below : List Frame} {meth : Method} {c : Code} {N n : Nat} {d : Nat} {rc : Nat → mm_T → Int32 → Int32 → Option (mm_T)} {J : mm_T} {p1 : Int32} {p2 : Int32} (X : cx_ok G p s m args meth c cX3_readLevel 6 RX3 none) (hn : 111 ≤ n) (hrc_X3_readLevel : ∀ {I J : mm_T} {p1 : Int32} {p2 : Int32} {z : mm_T}, rc 0 I p1 p2 = some z → ct_m l G n yX3_readLevel cX3_readLevel 6 none ({ frames := 8 + d, cells := 0, slots := 0, locals := 207 + 40 * d }) [.ref (cx_b G + ly_loc 3 0), .int p1, .int p2] I J (ct_qv G n z J)) (hrc_X3_readNot : ∀ {I J : mm_T} {p1 : Int32} {z : mm_T}, rc 1 I p1 0 = some z → ct_m l G n yX3_readNot cX3_readNot 2 none ({ frames := 8 + d, cells := 0, slots := 0, locals := 207 + 40 * d }) [.ref (cx_b G + ly_loc 3 0), .int p1] I J (ct_qv G n z J)) (hrc_X3_readOne : ∀ {I J : mm_T} {p1 : Int32} {z : mm_T}, rc 2 I p1 0 = some z → ct_m l G n yX3_readOne cX3_readOne 2 none ({ frames := 8 + d, cells := 0, slots := 0, locals := 207 + 40 * d }) [.ref (cx_b G + ly_loc 3 0), .int p1] I J (ct_qv G n z J)) {z : mm_T} {I : mm_T} {a1 : Int32} {a2 : Int32} {H : Heap} {locs : List Loc} {ls : Array Slot} (h : f_X3_readLevel_L31 N n rc p1 p2 I a1 a2 = some z) (S : st_ok G n I J s H locs) (hl : lv_has ls 6 [(0, .ref (cx_b G + ly_loc 3 0)), (1, .int a1), (2, .int a2)]) : W p l e ({ frames := 8 + (d + 1), cells := 0, slots := 0, locals := 207 + 40 * (d + 1) }) s m args below meth c H locs 0 0 (MQ below (ct_qv G n z J) args s 0 0 (cx_A G)) (F0 m 31 ls []) := by
  unfold f_X3_readLevel_L31 at h
  refine lv_aload_n X.1 X.2.1 dX3_readLevel_31 rfl (lv_at hl 0 rfl) ?_
  refine lv_iload_n X.1 X.2.1 dX3_readLevel_32 rfl (lv_at hl 1 rfl) ?_
  refine lv_iconst (v := 1) X.1 X.2.1 dX3_readLevel_33 (by decide) ?_
  refine lv_iadd X.1 X.2.1 dX3_readLevel_34 ?_
  refine lv_iload_n X.1 X.2.1 dX3_readLevel_35 rfl (lv_at hl 2 rfl) ?_
  obtain ⟨q_6, eq_6, h⟩ := pz_bd_e h
  refine r_Vv X S (hrc_X3_readLevel eq_6) gd_X3_38 ⟨rfl, ny_X3_readLevel⟩ ⟨rfl, rfl⟩ ⟨by dsimp only; omega, by dsimp only; omega⟩ (r_recv X S (ly_ok_3 (by decide) S.2.2.2) rfl rfl) rfl rfl hl.1 (Nat.le_of_ble_eq_true rfl) dX3_readLevel_36 (fun H locs S => ?_)
  refine lv_iload_n X.1 X.2.1 dX3_readLevel_39 rfl (lv_at hl 1 rfl) ?_
  refine lv_iconst (v := 2) X.1 X.2.1 dX3_readLevel_40 (by decide) ?_
  refine lv_icmp_ne (tgt := 48) X.1 X.2.1 dX3_readLevel_41 (by decide) (fun c_7 => ?_) (fun c_7 => ?_)
  · have h := pz_f c_7 h
    refine lv_sipush (v := 160) X.1 X.2.1 dX3_readLevel_48 (by decide) ?_
    exact w_X3_readLevel_L51 X hn hrc_X3_readLevel hrc_X3_readNot hrc_X3_readOne h S (lv_sub hl [0, 1, 2] rfl)
  have h := pz_t c_7 h
  refine lv_iconst (v := 1) X.1 X.2.1 dX3_readLevel_44 (by decide) ?_
  refine lv_goto (tgt := 51) X.1 X.2.1 dX3_readLevel_45 (by decide) ?_
  exact w_X3_readLevel_L51 X hn hrc_X3_readLevel hrc_X3_readNot hrc_X3_readOne h S (lv_sub hl [0, 1, 2] rfl)
def f_X3_readLevel (N n : Nat) (rc : Nat → mm_T → Int32 → Int32 → Option (mm_T)) (I : mm_T) (p1 : Int32) (p2 : Int32) : Option (mm_T) := if p1 ≤ (4 : Int32) then (if p1 = (2 : Int32) then (if (I 3 0 6) = (112 : Int32) then (pz_bd (rc 1 I p2 0) fun q_4 => some q_4) else (f_X3_readLevel_L31 N n rc p1 p2 I p1 p2)) else (f_X3_readLevel_L31 N n rc p1 p2 I p1 p2)) else (pz_bd (rc 2 I p2 0) fun q_5 => some q_5)
set_option maxRecDepth 100000 in
set_option maxHeartbeats 4000000 in
theorem c_X3_readLevel {l : Launch} {G : cx_T} {N n : Nat} {d : Nat} {rc : Nat → mm_T → Int32 → Int32 → Option (mm_T)} {I J : mm_T} {p1 : Int32} {p2 : Int32} (hrc_X3_readLevel : ∀ {I J : mm_T} {p1 : Int32} {p2 : Int32} {z : mm_T}, rc 0 I p1 p2 = some z → ct_m l G n yX3_readLevel cX3_readLevel 6 none ({ frames := 8 + d, cells := 0, slots := 0, locals := 207 + 40 * d }) [.ref (cx_b G + ly_loc 3 0), .int p1, .int p2] I J (ct_qv G n z J)) (hrc_X3_readNot : ∀ {I J : mm_T} {p1 : Int32} {z : mm_T}, rc 1 I p1 0 = some z → ct_m l G n yX3_readNot cX3_readNot 2 none ({ frames := 8 + d, cells := 0, slots := 0, locals := 207 + 40 * d }) [.ref (cx_b G + ly_loc 3 0), .int p1] I J (ct_qv G n z J)) (hrc_X3_readOne : ∀ {I J : mm_T} {p1 : Int32} {z : mm_T}, rc 2 I p1 0 = some z → ct_m l G n yX3_readOne cX3_readOne 2 none ({ frames := 8 + d, cells := 0, slots := 0, locals := 207 + 40 * d }) [.ref (cx_b G + ly_loc 3 0), .int p1] I J (ct_qv G n z J)) {z : mm_T} (h : f_X3_readLevel N n rc I p1 p2 = some z) : ct_m l G n yX3_readLevel cX3_readLevel 6 none ({ frames := 8 + (d + 1), cells := 0, slots := 0, locals := 207 + 40 * (d + 1) }) [.ref (cx_b G + ly_loc 3 0), .int p1, .int p2] I J (ct_qv G n z J) := by
  refine ct_en (by decide) (Nat.le_of_ble_eq_true rfl) ?_
  intro p e s m args below meth c ls X S hl
  have X : cx_ok G p s m args meth c cX3_readLevel 6 RX3 none := X
  have hl : lv_has ls 6 [(0, .ref (cx_b G + ly_loc 3 0)), (1, .int p1), (2, .int p2)] := hl
  have hn := S.2.2.2
  unfold f_X3_readLevel at h
  refine lv_iload_n X.1 X.2.1 dX3_readLevel_0 rfl (lv_at hl 1 rfl) ?_
  refine lv_iconst (v := 4) X.1 X.2.1 dX3_readLevel_1 (by decide) ?_
  refine lv_icmp_le (tgt := 11) X.1 X.2.1 dX3_readLevel_2 (by decide) (fun c_1 => ?_) (fun c_1 => ?_)
  · have h := pz_t c_1 h
    refine lv_iload_n X.1 X.2.1 dX3_readLevel_11 rfl (lv_at hl 1 rfl) ?_
    refine lv_iconst (v := 2) X.1 X.2.1 dX3_readLevel_12 (by decide) ?_
    refine lv_icmp_ne (tgt := 31) X.1 X.2.1 dX3_readLevel_13 (by decide) (fun c_2 => ?_) (fun c_2 => ?_)
    · have h := pz_f c_2 h
      exact w_X3_readLevel_L31 X hn hrc_X3_readLevel hrc_X3_readNot hrc_X3_readOne h S (lv_sub hl [0, 1, 2] rfl)
    have h := pz_t c_2 h
    refine lv_aload_n X.1 X.2.1 dX3_readLevel_16 rfl (lv_at hl 0 rfl) ?_
    refine gf_X3_48 X S (by decide) dX3_readLevel_17 ?_
    refine lv_bipush (v := 112) X.1 X.2.1 dX3_readLevel_20 (by decide) ?_
    refine lv_icmp_ne (tgt := 31) X.1 X.2.1 dX3_readLevel_22 (by decide) (fun c_3 => ?_) (fun c_3 => ?_)
    · have h := pz_f c_3 h
      exact w_X3_readLevel_L31 X hn hrc_X3_readLevel hrc_X3_readNot hrc_X3_readOne h S (lv_sub hl [0, 1, 2] rfl)
    have h := pz_t c_3 h
    refine lv_aload_n X.1 X.2.1 dX3_readLevel_25 rfl (lv_at hl 0 rfl) ?_
    refine lv_iload_n X.1 X.2.1 dX3_readLevel_26 rfl (lv_at hl 2 rfl) ?_
    obtain ⟨q_4, eq_4, h⟩ := pz_bd_e h
    refine r_Vv X S (hrc_X3_readNot eq_4) gd_X3_71 ⟨rfl, ny_X3_readNot⟩ ⟨rfl, rfl⟩ ⟨by dsimp only; omega, by dsimp only; omega⟩ (r_recv X S (ly_ok_3 (by decide) S.2.2.2) rfl rfl) rfl rfl hl.1 (Nat.le_of_ble_eq_true rfl) dX3_readLevel_27 (fun H locs S => ?_)
    cases h
    exact r_vret X S dX3_readLevel_30
  have h := pz_f c_1 h
  refine lv_aload_n X.1 X.2.1 dX3_readLevel_5 rfl (lv_at hl 0 rfl) ?_
  refine lv_iload_n X.1 X.2.1 dX3_readLevel_6 rfl (lv_at hl 2 rfl) ?_
  obtain ⟨q_5, eq_5, h⟩ := pz_bd_e h
  refine r_Vv X S (hrc_X3_readOne eq_5) gd_X3_68 ⟨rfl, ny_X3_readOne⟩ ⟨rfl, rfl⟩ ⟨by dsimp only; omega, by dsimp only; omega⟩ (r_recv X S (ly_ok_3 (by decide) S.2.2.2) rfl rfl) rfl rfl hl.1 (Nat.le_of_ble_eq_true rfl) dX3_readLevel_7 (fun H locs S => ?_)
  cases h
  exact r_vret X S dX3_readLevel_10
def f_X3_readNot (N n : Nat) (rc : Nat → mm_T → Int32 → Int32 → Option (mm_T)) (I : mm_T) (p1 : Int32) : Option (mm_T) := if p1 < (5 : Int32) then (pz_bd (f_X3_readToken N n I) fun q_2 => pz_bd (rc 0 q_2 (2 : Int32) (p1 + (1 : Int32))) fun q_3 => pz_bd (f_X3_emit N n q_3 (-112 : Int32)) fun q_4 => some q_4) else (pz_bd (f_X3_fail N n I) fun q_5 => some q_5)
set_option maxRecDepth 100000 in
set_option maxHeartbeats 4000000 in
theorem c_X3_readNot {l : Launch} {G : cx_T} {N n : Nat} {d : Nat} {rc : Nat → mm_T → Int32 → Int32 → Option (mm_T)} {I J : mm_T} {p1 : Int32} (hrc_X3_readLevel : ∀ {I J : mm_T} {p1 : Int32} {p2 : Int32} {z : mm_T}, rc 0 I p1 p2 = some z → ct_m l G n yX3_readLevel cX3_readLevel 6 none ({ frames := 8 + d, cells := 0, slots := 0, locals := 207 + 40 * d }) [.ref (cx_b G + ly_loc 3 0), .int p1, .int p2] I J (ct_qv G n z J)) (hrc_X3_readNot : ∀ {I J : mm_T} {p1 : Int32} {z : mm_T}, rc 1 I p1 0 = some z → ct_m l G n yX3_readNot cX3_readNot 2 none ({ frames := 8 + d, cells := 0, slots := 0, locals := 207 + 40 * d }) [.ref (cx_b G + ly_loc 3 0), .int p1] I J (ct_qv G n z J)) (hrc_X3_readOne : ∀ {I J : mm_T} {p1 : Int32} {z : mm_T}, rc 2 I p1 0 = some z → ct_m l G n yX3_readOne cX3_readOne 2 none ({ frames := 8 + d, cells := 0, slots := 0, locals := 207 + 40 * d }) [.ref (cx_b G + ly_loc 3 0), .int p1] I J (ct_qv G n z J)) {z : mm_T} (h : f_X3_readNot N n rc I p1 = some z) : ct_m l G n yX3_readNot cX3_readNot 2 none ({ frames := 8 + (d + 1), cells := 0, slots := 0, locals := 207 + 40 * (d + 1) }) [.ref (cx_b G + ly_loc 3 0), .int p1] I J (ct_qv G n z J) := by
  refine ct_en (by decide) (Nat.le_of_ble_eq_true rfl) ?_
  intro p e s m args below meth c ls X S hl
  have X : cx_ok G p s m args meth c cX3_readNot 2 RX3 none := X
  have hl : lv_has ls 2 [(0, .ref (cx_b G + ly_loc 3 0)), (1, .int p1)] := hl
  have hn := S.2.2.2
  unfold f_X3_readNot at h
  refine lv_iload_n X.1 X.2.1 dX3_readNot_0 rfl (lv_at hl 1 rfl) ?_
  refine lv_iconst (v := 5) X.1 X.2.1 dX3_readNot_1 (by decide) ?_
  refine lv_icmp_lt (tgt := 10) X.1 X.2.1 dX3_readNot_2 (by decide) (fun c_1 => ?_) (fun c_1 => ?_)
  · have h := pz_t c_1 h
    refine lv_aload_n X.1 X.2.1 dX3_readNot_10 rfl (lv_at hl 0 rfl) ?_
    obtain ⟨q_2, eq_2, h⟩ := pz_bd_e h
    refine r_Vv X S (c_X3_readToken eq_2) gd_X3_31 ⟨rfl, ny_X3_readToken⟩ ⟨rfl, rfl⟩ ⟨by dsimp only; omega, by dsimp only; omega⟩ (r_recv X S (ly_ok_3 (by decide) S.2.2.2) rfl rfl) rfl rfl hl.1 (Nat.le_of_ble_eq_true rfl) dX3_readNot_11 (fun H locs S => ?_)
    refine lv_aload_n X.1 X.2.1 dX3_readNot_14 rfl (lv_at hl 0 rfl) ?_
    refine lv_iconst (v := 2) X.1 X.2.1 dX3_readNot_15 (by decide) ?_
    refine lv_iload_n X.1 X.2.1 dX3_readNot_16 rfl (lv_at hl 1 rfl) ?_
    refine lv_iconst (v := 1) X.1 X.2.1 dX3_readNot_17 (by decide) ?_
    refine lv_iadd X.1 X.2.1 dX3_readNot_18 ?_
    obtain ⟨q_3, eq_3, h⟩ := pz_bd_e h
    refine r_Vv X S (hrc_X3_readLevel eq_3) gd_X3_38 ⟨rfl, ny_X3_readLevel⟩ ⟨rfl, rfl⟩ ⟨by dsimp only; omega, by dsimp only; omega⟩ (r_recv X S (ly_ok_3 (by decide) S.2.2.2) rfl rfl) rfl rfl hl.1 (Nat.le_of_ble_eq_true rfl) dX3_readNot_19 (fun H locs S => ?_)
    refine lv_aload_n X.1 X.2.1 dX3_readNot_22 rfl (lv_at hl 0 rfl) ?_
    refine lv_bipush (v := -112) X.1 X.2.1 dX3_readNot_23 (by decide) ?_
    obtain ⟨q_4, eq_4, h⟩ := pz_bd_e h
    refine r_Vv X S (c_X3_emit eq_4) gd_X3_78 ⟨rfl, ny_X3_emit⟩ ⟨rfl, rfl⟩ ⟨by dsimp only; omega, by dsimp only; omega⟩ (r_recv X S (ly_ok_3 (by decide) S.2.2.2) rfl rfl) rfl rfl hl.1 (Nat.le_of_ble_eq_true rfl) dX3_readNot_25 (fun H locs S => ?_)
    cases h
    exact r_vret X S dX3_readNot_28
  have h := pz_f c_1 h
  refine lv_aload_n X.1 X.2.1 dX3_readNot_5 rfl (lv_at hl 0 rfl) ?_
  obtain ⟨q_5, eq_5, h⟩ := pz_bd_e h
  refine r_Vv X S (c_X3_fail eq_5) gd_X3_51 ⟨rfl, ny_X3_fail⟩ ⟨rfl, rfl⟩ ⟨by dsimp only; omega, by dsimp only; omega⟩ (r_recv X S (ly_ok_3 (by decide) S.2.2.2) rfl rfl) rfl rfl hl.1 (Nat.le_of_ble_eq_true rfl) dX3_readNot_6 (fun H locs S => ?_)
  cases h
  exact r_vret X S dX3_readNot_9
def f_X3_readOne_L83 (N n : Nat) (rc : Nat → mm_T → Int32 → Int32 → Option (mm_T)) (p1 : Int32) (I : mm_T) (a1 : Int32) : Option (mm_T) := if (I 3 0 6) = (40 : Int32) then (if (5 : Int32) ≤ a1 then (pz_bd (f_X3_fail N n I) fun q_16 => some q_16) else (pz_bd (f_X3_readToken N n I) fun q_17 => pz_bd (rc 0 q_17 (0 : Int32) (a1 + (1 : Int32))) fun q_18 => if (q_18 3 0 6) = (41 : Int32) then (pz_bd (f_X3_readToken N n q_18) fun q_20 => some q_20) else (pz_bd (f_X3_fail N n q_18) fun q_21 => some q_21))) else (pz_bd (f_X3_fail N n I) fun q_14 => some q_14)
set_option maxRecDepth 100000 in
set_option maxHeartbeats 4000000 in
theorem w_X3_readOne_L83 {l : Launch} {G : cx_T} {p : Program} {e : Env} {s : State} {m : MethodId} {args : Array Value} {below : List Frame} {meth : Method} {c : Code} {N n : Nat} {d : Nat} {rc : Nat → mm_T → Int32 → Int32 → Option (mm_T)} {J : mm_T} {p1 : Int32} (X : cx_ok G p s m args meth c cX3_readOne 2 RX3 none) (hn : 111 ≤ n) (hrc_X3_readLevel : ∀ {I J : mm_T} {p1 : Int32} {p2 : Int32} {z : mm_T}, rc 0 I p1 p2 = some z → ct_m l G n yX3_readLevel cX3_readLevel 6 none ({ frames := 8 + d, cells := 0, slots := 0, locals := 207 + 40 * d }) [.ref (cx_b G + ly_loc 3 0), .int p1, .int p2] I J (ct_qv G n z J)) (hrc_X3_readNot : ∀ {I J : mm_T} {p1 : Int32} {z : mm_T}, rc 1 I p1 0 = some z → ct_m l G n yX3_readNot cX3_readNot 2 none ({ frames := 8 + d, cells := 0, slots := 0, locals := 207 + 40 * d }) [.ref (cx_b G + ly_loc 3 0), .int p1] I J (ct_qv G n z J)) (hrc_X3_readOne : ∀ {I J : mm_T} {p1 : Int32} {z : mm_T}, rc 2 I p1 0 = some z → ct_m l G n yX3_readOne cX3_readOne 2 none ({ frames := 8 + d, cells := 0, slots := 0, locals := 207 + 40 * d }) [.ref (cx_b G + ly_loc 3 0), .int p1] I J (ct_qv G n z J)) {z : mm_T} {I : mm_T} {a1 : Int32} {H : Heap} {locs : List Loc} {ls : Array Slot} (h : f_X3_readOne_L83 N n rc p1 I a1 = some z) (S : st_ok G n I J s H locs) (hl : lv_has ls 2 [(0, .ref (cx_b G + ly_loc 3 0)), (1, .int a1)]) : W p l e ({ frames := 8 + (d + 1), cells := 0, slots := 0, locals := 207 + 40 * (d + 1) }) s m args below meth c H locs 0 0 (MQ below (ct_qv G n z J) args s 0 0 (cx_A G)) (F0 m 83 ls []) := by
  unfold f_X3_readOne_L83 at h
  refine lv_aload_n X.1 X.2.1 dX3_readOne_83 rfl (lv_at hl 0 rfl) ?_
  refine gf_X3_48 X S (by decide) dX3_readOne_84 ?_
  refine lv_bipush (v := 40) X.1 X.2.1 dX3_readOne_87 (by decide) ?_
  refine lv_icmp_ne (tgt := 130) X.1 X.2.1 dX3_readOne_89 (by decide) (fun c_13 => ?_) (fun c_13 => ?_)
  · have h := pz_f c_13 h
    refine lv_aload_n X.1 X.2.1 dX3_readOne_130 rfl (lv_at hl 0 rfl) ?_
    obtain ⟨q_14, eq_14, h⟩ := pz_bd_e h
    refine r_Vv X S (c_X3_fail eq_14) gd_X3_51 ⟨rfl, ny_X3_fail⟩ ⟨rfl, rfl⟩ ⟨by dsimp only; omega, by dsimp only; omega⟩ (r_recv X S (ly_ok_3 (by decide) S.2.2.2) rfl rfl) rfl rfl hl.1 (Nat.le_of_ble_eq_true rfl) dX3_readOne_131 (fun H locs S => ?_)
    cases h
    exact r_vret X S dX3_readOne_134
  have h := pz_t c_13 h
  refine lv_iload_n X.1 X.2.1 dX3_readOne_92 rfl (lv_at hl 1 rfl) ?_
  refine lv_iconst (v := 5) X.1 X.2.1 dX3_readOne_93 (by decide) ?_
  refine lv_icmp_ge (tgt := 130) X.1 X.2.1 dX3_readOne_94 (by decide) (fun c_15 => ?_) (fun c_15 => ?_)
  · have h := pz_t c_15 h
    refine lv_aload_n X.1 X.2.1 dX3_readOne_130 rfl (lv_at hl 0 rfl) ?_
    obtain ⟨q_16, eq_16, h⟩ := pz_bd_e h
    refine r_Vv X S (c_X3_fail eq_16) gd_X3_51 ⟨rfl, ny_X3_fail⟩ ⟨rfl, rfl⟩ ⟨by dsimp only; omega, by dsimp only; omega⟩ (r_recv X S (ly_ok_3 (by decide) S.2.2.2) rfl rfl) rfl rfl hl.1 (Nat.le_of_ble_eq_true rfl) dX3_readOne_131 (fun H locs S => ?_)
    cases h
    exact r_vret X S dX3_readOne_134
  have h := pz_f c_15 h
  refine lv_aload_n X.1 X.2.1 dX3_readOne_97 rfl (lv_at hl 0 rfl) ?_
  obtain ⟨q_17, eq_17, h⟩ := pz_bd_e h
  refine r_Vv X S (c_X3_readToken eq_17) gd_X3_31 ⟨rfl, ny_X3_readToken⟩ ⟨rfl, rfl⟩ ⟨by dsimp only; omega, by dsimp only; omega⟩ (r_recv X S (ly_ok_3 (by decide) S.2.2.2) rfl rfl) rfl rfl hl.1 (Nat.le_of_ble_eq_true rfl) dX3_readOne_98 (fun H locs S => ?_)
  refine lv_aload_n X.1 X.2.1 dX3_readOne_101 rfl (lv_at hl 0 rfl) ?_
  refine lv_iconst (v := 0) X.1 X.2.1 dX3_readOne_102 (by decide) ?_
  refine lv_iload_n X.1 X.2.1 dX3_readOne_103 rfl (lv_at hl 1 rfl) ?_
  refine lv_iconst (v := 1) X.1 X.2.1 dX3_readOne_104 (by decide) ?_
  refine lv_iadd X.1 X.2.1 dX3_readOne_105 ?_
  obtain ⟨q_18, eq_18, h⟩ := pz_bd_e h
  refine r_Vv X S (hrc_X3_readLevel eq_18) gd_X3_38 ⟨rfl, ny_X3_readLevel⟩ ⟨rfl, rfl⟩ ⟨by dsimp only; omega, by dsimp only; omega⟩ (r_recv X S (ly_ok_3 (by decide) S.2.2.2) rfl rfl) rfl rfl hl.1 (Nat.le_of_ble_eq_true rfl) dX3_readOne_106 (fun H locs S => ?_)
  refine lv_aload_n X.1 X.2.1 dX3_readOne_109 rfl (lv_at hl 0 rfl) ?_
  refine gf_X3_48 X S (by decide) dX3_readOne_110 ?_
  refine lv_bipush (v := 41) X.1 X.2.1 dX3_readOne_113 (by decide) ?_
  refine lv_icmp_eq (tgt := 123) X.1 X.2.1 dX3_readOne_115 (by decide) (fun c_19 => ?_) (fun c_19 => ?_)
  · have h := pz_t c_19 h
    refine lv_aload_n X.1 X.2.1 dX3_readOne_123 rfl (lv_at hl 0 rfl) ?_
    obtain ⟨q_20, eq_20, h⟩ := pz_bd_e h
    refine r_Vv X S (c_X3_readToken eq_20) gd_X3_31 ⟨rfl, ny_X3_readToken⟩ ⟨rfl, rfl⟩ ⟨by dsimp only; omega, by dsimp only; omega⟩ (r_recv X S (ly_ok_3 (by decide) S.2.2.2) rfl rfl) rfl rfl hl.1 (Nat.le_of_ble_eq_true rfl) dX3_readOne_124 (fun H locs S => ?_)
    refine lv_goto (tgt := 134) X.1 X.2.1 dX3_readOne_127 (by decide) ?_
    cases h
    exact r_vret X S dX3_readOne_134
  have h := pz_f c_19 h
  refine lv_aload_n X.1 X.2.1 dX3_readOne_118 rfl (lv_at hl 0 rfl) ?_
  obtain ⟨q_21, eq_21, h⟩ := pz_bd_e h
  refine r_Vv X S (c_X3_fail eq_21) gd_X3_51 ⟨rfl, ny_X3_fail⟩ ⟨rfl, rfl⟩ ⟨by dsimp only; omega, by dsimp only; omega⟩ (r_recv X S (ly_ok_3 (by decide) S.2.2.2) rfl rfl) rfl rfl hl.1 (Nat.le_of_ble_eq_true rfl) dX3_readOne_119 (fun H locs S => ?_)
  cases h
  exact r_vret X S dX3_readOne_122
def f_X3_readOne (N n : Nat) (rc : Nat → mm_T → Int32 → Int32 → Option (mm_T)) (I : mm_T) (p1 : Int32) : Option (mm_T) := if (I 3 0 6) = (3 : Int32) then (pz_bd (f_X3_emit N n I (I 3 0 7)) fun q_11 => pz_bd (f_X3_readToken N n q_11) fun q_12 => some q_12) else (pz_bd (f_X3_isName N (I 3 0 6)) fun q_2 => if q_2 = 0 then (if (I 3 0 6) = (45 : Int32) then (if (5 : Int32) ≤ p1 then (f_X3_readOne_L83 N n rc p1 I p1) else (pz_bd (f_X3_readToken N n I) fun q_6 => pz_bd (rc 2 q_6 (p1 + (1 : Int32)) 0) fun q_7 => pz_bd (f_X3_emit N n q_7 (-4 : Int32)) fun q_8 => some q_8)) else (f_X3_readOne_L83 N n rc p1 I p1)) else (pz_bd (f_X3_emit N n I (-(I 3 0 6))) fun q_9 => pz_bd (f_X3_readToken N n q_9) fun q_10 => some q_10))
set_option maxRecDepth 100000 in
set_option maxHeartbeats 4000000 in
theorem c_X3_readOne {l : Launch} {G : cx_T} {N n : Nat} {d : Nat} {rc : Nat → mm_T → Int32 → Int32 → Option (mm_T)} {I J : mm_T} {p1 : Int32} (hrc_X3_readLevel : ∀ {I J : mm_T} {p1 : Int32} {p2 : Int32} {z : mm_T}, rc 0 I p1 p2 = some z → ct_m l G n yX3_readLevel cX3_readLevel 6 none ({ frames := 8 + d, cells := 0, slots := 0, locals := 207 + 40 * d }) [.ref (cx_b G + ly_loc 3 0), .int p1, .int p2] I J (ct_qv G n z J)) (hrc_X3_readNot : ∀ {I J : mm_T} {p1 : Int32} {z : mm_T}, rc 1 I p1 0 = some z → ct_m l G n yX3_readNot cX3_readNot 2 none ({ frames := 8 + d, cells := 0, slots := 0, locals := 207 + 40 * d }) [.ref (cx_b G + ly_loc 3 0), .int p1] I J (ct_qv G n z J)) (hrc_X3_readOne : ∀ {I J : mm_T} {p1 : Int32} {z : mm_T}, rc 2 I p1 0 = some z → ct_m l G n yX3_readOne cX3_readOne 2 none ({ frames := 8 + d, cells := 0, slots := 0, locals := 207 + 40 * d }) [.ref (cx_b G + ly_loc 3 0), .int p1] I J (ct_qv G n z J)) {z : mm_T} (h : f_X3_readOne N n rc I p1 = some z) : ct_m l G n yX3_readOne cX3_readOne 2 none ({ frames := 8 + (d + 1), cells := 0, slots := 0, locals := 207 + 40 * (d + 1) }) [.ref (cx_b G + ly_loc 3 0), .int p1] I J (ct_qv G n z J) := by
  refine ct_en (by decide) (Nat.le_of_ble_eq_true rfl) ?_
  intro p e s m args below meth c ls X S hl
  have X : cx_ok G p s m args meth c cX3_readOne 2 RX3 none := X
  have hl : lv_has ls 2 [(0, .ref (cx_b G + ly_loc 3 0)), (1, .int p1)] := hl
  have hn := S.2.2.2
  unfold f_X3_readOne at h
  refine lv_aload_n X.1 X.2.1 dX3_readOne_0 rfl (lv_at hl 0 rfl) ?_
  refine gf_X3_48 X S (by decide) dX3_readOne_1 ?_
  refine lv_iconst (v := 3) X.1 X.2.1 dX3_readOne_4 (by decide) ?_
  refine lv_icmp_ne (tgt := 23) X.1 X.2.1 dX3_readOne_5 (by decide) (fun c_1 => ?_) (fun c_1 => ?_)
  · have h := pz_f c_1 h
    refine lv_aload_n X.1 X.2.1 dX3_readOne_23 rfl (lv_at hl 0 rfl) ?_
    refine gf_X3_48 X S (by decide) dX3_readOne_24 ?_
    obtain ⟨q_2, eq_2, h⟩ := pz_bd_e h
    refine r_Si X S (c_X3_isName eq_2) gd_X3_84 ny_X3_isName ⟨rfl, rfl⟩ ⟨by dsimp only; omega, by dsimp only; omega⟩ rfl rfl hl.1 (Nat.le_of_ble_eq_true rfl) dX3_readOne_27 (fun H locs S => ?_)
    refine lv_if_eq (tgt := 49) X.1 X.2.1 dX3_readOne_30 (by decide) (fun c_3 => ?_) (fun c_3 => ?_)
    · have h := pz_t c_3 h
      refine lv_aload_n X.1 X.2.1 dX3_readOne_49 rfl (lv_at hl 0 rfl) ?_
      refine gf_X3_48 X S (by decide) dX3_readOne_50 ?_
      refine lv_bipush (v := 45) X.1 X.2.1 dX3_readOne_53 (by decide) ?_
      refine lv_icmp_ne (tgt := 83) X.1 X.2.1 dX3_readOne_55 (by decide) (fun c_4 => ?_) (fun c_4 => ?_)
      · have h := pz_f c_4 h
        exact w_X3_readOne_L83 X hn hrc_X3_readLevel hrc_X3_readNot hrc_X3_readOne h S (lv_sub hl [0, 1] rfl)
      have h := pz_t c_4 h
      refine lv_iload_n X.1 X.2.1 dX3_readOne_58 rfl (lv_at hl 1 rfl) ?_
      refine lv_iconst (v := 5) X.1 X.2.1 dX3_readOne_59 (by decide) ?_
      refine lv_icmp_ge (tgt := 83) X.1 X.2.1 dX3_readOne_60 (by decide) (fun c_5 => ?_) (fun c_5 => ?_)
      · have h := pz_t c_5 h
        exact w_X3_readOne_L83 X hn hrc_X3_readLevel hrc_X3_readNot hrc_X3_readOne h S (lv_sub hl [0, 1] rfl)
      have h := pz_f c_5 h
      refine lv_aload_n X.1 X.2.1 dX3_readOne_63 rfl (lv_at hl 0 rfl) ?_
      obtain ⟨q_6, eq_6, h⟩ := pz_bd_e h
      refine r_Vv X S (c_X3_readToken eq_6) gd_X3_31 ⟨rfl, ny_X3_readToken⟩ ⟨rfl, rfl⟩ ⟨by dsimp only; omega, by dsimp only; omega⟩ (r_recv X S (ly_ok_3 (by decide) S.2.2.2) rfl rfl) rfl rfl hl.1 (Nat.le_of_ble_eq_true rfl) dX3_readOne_64 (fun H locs S => ?_)
      refine lv_aload_n X.1 X.2.1 dX3_readOne_67 rfl (lv_at hl 0 rfl) ?_
      refine lv_iload_n X.1 X.2.1 dX3_readOne_68 rfl (lv_at hl 1 rfl) ?_
      refine lv_iconst (v := 1) X.1 X.2.1 dX3_readOne_69 (by decide) ?_
      refine lv_iadd X.1 X.2.1 dX3_readOne_70 ?_
      obtain ⟨q_7, eq_7, h⟩ := pz_bd_e h
      refine r_Vv X S (hrc_X3_readOne eq_7) gd_X3_68 ⟨rfl, ny_X3_readOne⟩ ⟨rfl, rfl⟩ ⟨by dsimp only; omega, by dsimp only; omega⟩ (r_recv X S (ly_ok_3 (by decide) S.2.2.2) rfl rfl) rfl rfl hl.1 (Nat.le_of_ble_eq_true rfl) dX3_readOne_71 (fun H locs S => ?_)
      refine lv_aload_n X.1 X.2.1 dX3_readOne_74 rfl (lv_at hl 0 rfl) ?_
      refine lv_bipush (v := -4) X.1 X.2.1 dX3_readOne_75 (by decide) ?_
      obtain ⟨q_8, eq_8, h⟩ := pz_bd_e h
      refine r_Vv X S (c_X3_emit eq_8) gd_X3_78 ⟨rfl, ny_X3_emit⟩ ⟨rfl, rfl⟩ ⟨by dsimp only; omega, by dsimp only; omega⟩ (r_recv X S (ly_ok_3 (by decide) S.2.2.2) rfl rfl) rfl rfl hl.1 (Nat.le_of_ble_eq_true rfl) dX3_readOne_77 (fun H locs S => ?_)
      refine lv_goto (tgt := 134) X.1 X.2.1 dX3_readOne_80 (by decide) ?_
      cases h
      exact r_vret X S dX3_readOne_134
    have h := pz_f c_3 h
    refine lv_aload_n X.1 X.2.1 dX3_readOne_33 rfl (lv_at hl 0 rfl) ?_
    refine lv_aload_n X.1 X.2.1 dX3_readOne_34 rfl (lv_at hl 0 rfl) ?_
    refine gf_X3_48 X S (by decide) dX3_readOne_35 ?_
    refine lv_ineg X.1 X.2.1 dX3_readOne_38 ?_
    obtain ⟨q_9, eq_9, h⟩ := pz_bd_e h
    refine r_Vv X S (c_X3_emit eq_9) gd_X3_78 ⟨rfl, ny_X3_emit⟩ ⟨rfl, rfl⟩ ⟨by dsimp only; omega, by dsimp only; omega⟩ (r_recv X S (ly_ok_3 (by decide) S.2.2.2) rfl rfl) rfl rfl hl.1 (Nat.le_of_ble_eq_true rfl) dX3_readOne_39 (fun H locs S => ?_)
    refine lv_aload_n X.1 X.2.1 dX3_readOne_42 rfl (lv_at hl 0 rfl) ?_
    obtain ⟨q_10, eq_10, h⟩ := pz_bd_e h
    refine r_Vv X S (c_X3_readToken eq_10) gd_X3_31 ⟨rfl, ny_X3_readToken⟩ ⟨rfl, rfl⟩ ⟨by dsimp only; omega, by dsimp only; omega⟩ (r_recv X S (ly_ok_3 (by decide) S.2.2.2) rfl rfl) rfl rfl hl.1 (Nat.le_of_ble_eq_true rfl) dX3_readOne_43 (fun H locs S => ?_)
    refine lv_goto (tgt := 134) X.1 X.2.1 dX3_readOne_46 (by decide) ?_
    cases h
    exact r_vret X S dX3_readOne_134
  have h := pz_t c_1 h
  refine lv_aload_n X.1 X.2.1 dX3_readOne_8 rfl (lv_at hl 0 rfl) ?_
  refine lv_aload_n X.1 X.2.1 dX3_readOne_9 rfl (lv_at hl 0 rfl) ?_
  refine gf_X3_81 X S (by decide) dX3_readOne_10 ?_
  obtain ⟨q_11, eq_11, h⟩ := pz_bd_e h
  refine r_Vv X S (c_X3_emit eq_11) gd_X3_78 ⟨rfl, ny_X3_emit⟩ ⟨rfl, rfl⟩ ⟨by dsimp only; omega, by dsimp only; omega⟩ (r_recv X S (ly_ok_3 (by decide) S.2.2.2) rfl rfl) rfl rfl hl.1 (Nat.le_of_ble_eq_true rfl) dX3_readOne_13 (fun H locs S => ?_)
  refine lv_aload_n X.1 X.2.1 dX3_readOne_16 rfl (lv_at hl 0 rfl) ?_
  obtain ⟨q_12, eq_12, h⟩ := pz_bd_e h
  refine r_Vv X S (c_X3_readToken eq_12) gd_X3_31 ⟨rfl, ny_X3_readToken⟩ ⟨rfl, rfl⟩ ⟨by dsimp only; omega, by dsimp only; omega⟩ (r_recv X S (ly_ok_3 (by decide) S.2.2.2) rfl rfl) rfl rfl hl.1 (Nat.le_of_ble_eq_true rfl) dX3_readOne_17 (fun H locs S => ?_)
  refine lv_goto (tgt := 134) X.1 X.2.1 dX3_readOne_20 (by decide) ?_
  cases h
  exact r_vret X S dX3_readOne_134
def f_C3 (N n : Nat) : Nat → Nat → mm_T → Int32 → Int32 → Option (mm_T)
  | 0, _, _, _, _ => none
  | d + 1, sel, I, p1, p2 => if sel = 0 then f_X3_readLevel N n (f_C3 N n d) I p1 p2 else if sel = 1 then f_X3_readNot N n (f_C3 N n d) I p1 else f_X3_readOne N n (f_C3 N n d) I p1
set_option maxRecDepth 100000 in
set_option maxHeartbeats 4000000 in
theorem ca_C3 {l : Launch} {G : cx_T} {N n : Nat} : ∀ (d : Nat), (∀ {I J : mm_T} {p1 : Int32} {p2 : Int32} {z : mm_T}, f_C3 N n d 0 I p1 p2 = some z → ct_m l G n yX3_readLevel cX3_readLevel 6 none ({ frames := 8 + d, cells := 0, slots := 0, locals := 207 + 40 * d }) [.ref (cx_b G + ly_loc 3 0), .int p1, .int p2] I J (ct_qv G n z J)) ∧ (∀ {I J : mm_T} {p1 : Int32} {z : mm_T}, f_C3 N n d 1 I p1 0 = some z → ct_m l G n yX3_readNot cX3_readNot 2 none ({ frames := 8 + d, cells := 0, slots := 0, locals := 207 + 40 * d }) [.ref (cx_b G + ly_loc 3 0), .int p1] I J (ct_qv G n z J)) ∧ (∀ {I J : mm_T} {p1 : Int32} {z : mm_T}, f_C3 N n d 2 I p1 0 = some z → ct_m l G n yX3_readOne cX3_readOne 2 none ({ frames := 8 + d, cells := 0, slots := 0, locals := 207 + 40 * d }) [.ref (cx_b G + ly_loc 3 0), .int p1] I J (ct_qv G n z J)) := by
  intro d
  induction d with
  | zero => exact ⟨(by intros; rename_i h; rw [f_C3] at h; cases h), (by intros; rename_i h; rw [f_C3] at h; cases h), (by intros; rename_i h; rw [f_C3] at h; cases h)⟩
  | succ d ih =>
    exact ⟨(by intros; rename_i h; rw [f_C3] at h; rw [if_pos rfl] at h; exact c_X3_readLevel (ih.1) (ih.2.1) (ih.2.2) h), (by intros; rename_i h; rw [f_C3] at h; rw [if_neg (show ¬ ((1 : Nat) = 0) by decide)] at h; rw [if_pos rfl] at h; exact c_X3_readNot (ih.1) (ih.2.1) (ih.2.2) h), (by intros; rename_i h; rw [f_C3] at h; rw [if_neg (show ¬ ((2 : Nat) = 0) by decide)] at h; rw [if_neg (show ¬ ((2 : Nat) = 1) by decide)] at h; exact c_X3_readOne (ih.1) (ih.2.1) (ih.2.2) h)⟩
theorem cs_X3_readLevel {l : Launch} {G : cx_T} {N n : Nat} {I J : mm_T} {p1 : Int32} {p2 : Int32} {z : mm_T} (h : f_C3 N n 60 0 I p1 p2 = some z) : ct_m l G n yX3_readLevel cX3_readLevel 6 none ({ frames := 68, cells := 0, slots := 0, locals := 2607 }) [.ref (cx_b G + ly_loc 3 0), .int p1, .int p2] I J (ct_qv G n z J) := (ca_C3 60).1 h
theorem cs_X3_readNot {l : Launch} {G : cx_T} {N n : Nat} {I J : mm_T} {p1 : Int32} {z : mm_T} (h : f_C3 N n 60 1 I p1 0 = some z) : ct_m l G n yX3_readNot cX3_readNot 2 none ({ frames := 68, cells := 0, slots := 0, locals := 2607 }) [.ref (cx_b G + ly_loc 3 0), .int p1] I J (ct_qv G n z J) := (ca_C3 60).2.1 h
theorem cs_X3_readOne {l : Launch} {G : cx_T} {N n : Nat} {I J : mm_T} {p1 : Int32} {z : mm_T} (h : f_C3 N n 60 2 I p1 0 = some z) : ct_m l G n yX3_readOne cX3_readOne 2 none ({ frames := 68, cells := 0, slots := 0, locals := 2607 }) [.ref (cx_b G + ly_loc 3 0), .int p1] I J (ct_qv G n z J) := (ca_C3 60).2.2 h
def f_X3_readTape_L101 (N n : Nat) (I : mm_T) : Option (mm_T × Int32) := pz_lt (mm_up I 3 0 1 (0 : Int32)) fun I_18 => if (I_18 3 0 10) = (-1 : Int32) then (some (I_18, (1 : Int32))) else (some (I_18, (0 : Int32)))
set_option maxRecDepth 100000 in
set_option maxHeartbeats 4000000 in
theorem w_X3_readTape_L101 {l : Launch} {G : cx_T} {p : Program} {e : Env} {s : State} {m : MethodId} {args : Array Value} {below : List Frame} {meth : Method} {c : Code} {N n : Nat} {J : mm_T} (X : cx_ok G p s m args meth c cX3_readTape 1 RX3 (some .boolean)) (hn : 111 ≤ n) {z : mm_T × Int32} {I : mm_T} {H : Heap} {locs : List Loc} {ls : Array Slot} (h : f_X3_readTape_L101 N n I = some z) (S : st_ok G n I J s H locs) (hl : lv_has ls 1 [(0, .ref (cx_b G + ly_loc 3 0))]) : W p l e ({ frames := 69, cells := 0, slots := 0, locals := 2632 }) s m args below meth c H locs 0 0 (MQ below (ct_qi G n z.1 J z.2) args s 0 0 (cx_A G)) (F0 m 101 ls []) := by
  unfold f_X3_readTape_L101 at h
  refine lv_aload_n X.1 X.2.1 dX3_readTape_101 rfl (lv_at hl 0 rfl) ?_
  refine lv_iconst (v := 0) X.1 X.2.1 dX3_readTape_102 (by decide) ?_
  refine pf_X3_18 X S (by decide) dX3_readTape_103 (fun I_18 H locs eI_18 S => ?_)
  have h := pz_lt_e h eI_18
  refine lv_aload_n X.1 X.2.1 dX3_readTape_106 rfl (lv_at hl 0 rfl) ?_
  refine gf_X3_28 X S (by decide) dX3_readTape_107 ?_
  refine lv_iconst (v := -1) X.1 X.2.1 dX3_readTape_110 (by decide) ?_
  refine lv_icmp_ne (tgt := 118) X.1 X.2.1 dX3_readTape_111 (by decide) (fun c_19 => ?_) (fun c_19 => ?_)
  · have h := pz_f c_19 h
    refine lv_iconst (v := 0) X.1 X.2.1 dX3_readTape_118 (by decide) ?_
    cases h
    exact r_zret (v := 0) X S rfl dX3_readTape_119
  have h := pz_t c_19 h
  refine lv_iconst (v := 1) X.1 X.2.1 dX3_readTape_114 (by decide) ?_
  refine lv_goto (tgt := 119) X.1 X.2.1 dX3_readTape_115 (by decide) ?_
  cases h
  exact r_zret (v := 1) X S rfl dX3_readTape_119
def f_X3_readTape (N n : Nat) (I : mm_T) : Option (mm_T × Int32) := pz_lt (mm_up I 3 0 3 (0 : Int32)) fun I_1 => pz_lt (mm_up I_1 3 0 9 (0 : Int32)) fun I_2 => pz_lt (mm_up I_2 3 0 10 (-1 : Int32)) fun I_3 => pz_bd (f_X3_readToken N n I_3) fun q_4 => pz_bd (f_X3_pass N n q_4 (107 : Int32)) fun q_5 => pz_bd (f_C3 N n 60 0 q_5 (0 : Int32) (0 : Int32)) fun q_6 => pz_bd (f_X3_pass N n q_6 (59 : Int32)) fun q_7 => pz_lt (mm_up q_7 3 0 4 (q_7 3 0 3)) fun I_8 => pz_bd (f_X3_pass N n I_8 (108 : Int32)) fun q_9 => pz_bd (f_C3 N n 60 0 q_9 (0 : Int32) (0 : Int32)) fun q_10 => pz_bd (f_X3_pass N n q_10 (59 : Int32)) fun q_11 => pz_lt (mm_up q_11 3 0 5 (q_11 3 0 3)) fun I_12 => pz_bd (f_X3_pass N n I_12 (109 : Int32)) fun q_13 => pz_bd (f_C3 N n 60 0 q_13 (0 : Int32) (0 : Int32)) fun q_14 => pz_bd (f_X3_pass N n q_14 (59 : Int32)) fun q_15 => if (q_15 3 0 6) = (1 : Int32) then (f_X3_readTape_L101 N n q_15) else (pz_bd (f_X3_fail N n q_15) fun q_17 => f_X3_readTape_L101 N n q_17)
set_option maxRecDepth 100000 in
set_option maxHeartbeats 4000000 in
theorem c_X3_readTape {l : Launch} {G : cx_T} {N n : Nat} {I J : mm_T} {z : mm_T × Int32} (h : f_X3_readTape N n I = some z) : ct_m l G n yX3_readTape cX3_readTape 1 (some .boolean) ({ frames := 69, cells := 0, slots := 0, locals := 2632 }) [.ref (cx_b G + ly_loc 3 0)] I J (ct_qi G n z.1 J z.2) := by
  refine ct_en (by decide) (Nat.le_of_ble_eq_true rfl) ?_
  intro p e s m args below meth c ls X S hl
  have X : cx_ok G p s m args meth c cX3_readTape 1 RX3 (some .boolean) := X
  have hl : lv_has ls 1 [(0, .ref (cx_b G + ly_loc 3 0))] := hl
  have hn := S.2.2.2
  unfold f_X3_readTape at h
  refine lv_aload_n X.1 X.2.1 dX3_readTape_0 rfl (lv_at hl 0 rfl) ?_
  refine lv_iconst (v := 0) X.1 X.2.1 dX3_readTape_1 (by decide) ?_
  refine pf_X3_22 X S (by decide) dX3_readTape_2 (fun I_1 H locs eI_1 S => ?_)
  have h := pz_lt_e h eI_1
  refine lv_aload_n X.1 X.2.1 dX3_readTape_5 rfl (lv_at hl 0 rfl) ?_
  refine lv_iconst (v := 0) X.1 X.2.1 dX3_readTape_6 (by decide) ?_
  refine pf_X3_25 X S (by decide) dX3_readTape_7 (fun I_2 H locs eI_2 S => ?_)
  have h := pz_lt_e h eI_2
  refine lv_aload_n X.1 X.2.1 dX3_readTape_10 rfl (lv_at hl 0 rfl) ?_
  refine lv_iconst (v := -1) X.1 X.2.1 dX3_readTape_11 (by decide) ?_
  refine pf_X3_28 X S (by decide) dX3_readTape_12 (fun I_3 H locs eI_3 S => ?_)
  have h := pz_lt_e h eI_3
  refine lv_aload_n X.1 X.2.1 dX3_readTape_15 rfl (lv_at hl 0 rfl) ?_
  obtain ⟨q_4, eq_4, h⟩ := pz_bd_e h
  refine r_Vv X S (c_X3_readToken eq_4) gd_X3_31 ⟨rfl, ny_X3_readToken⟩ ⟨rfl, rfl⟩ ⟨Nat.le_of_ble_eq_true rfl, Nat.le_of_ble_eq_true rfl⟩ (r_recv X S (ly_ok_3 (by decide) S.2.2.2) rfl rfl) rfl rfl hl.1 (Nat.le_of_ble_eq_true rfl) dX3_readTape_16 (fun H locs S => ?_)
  refine lv_aload_n X.1 X.2.1 dX3_readTape_19 rfl (lv_at hl 0 rfl) ?_
  refine lv_bipush (v := 107) X.1 X.2.1 dX3_readTape_20 (by decide) ?_
  obtain ⟨q_5, eq_5, h⟩ := pz_bd_e h
  refine r_Vv X S (c_X3_pass eq_5) gd_X3_34 ⟨rfl, ny_X3_pass⟩ ⟨rfl, rfl⟩ ⟨Nat.le_of_ble_eq_true rfl, Nat.le_of_ble_eq_true rfl⟩ (r_recv X S (ly_ok_3 (by decide) S.2.2.2) rfl rfl) rfl rfl hl.1 (Nat.le_of_ble_eq_true rfl) dX3_readTape_22 (fun H locs S => ?_)
  refine lv_aload_n X.1 X.2.1 dX3_readTape_25 rfl (lv_at hl 0 rfl) ?_
  refine lv_iconst (v := 0) X.1 X.2.1 dX3_readTape_26 (by decide) ?_
  refine lv_iconst (v := 0) X.1 X.2.1 dX3_readTape_27 (by decide) ?_
  obtain ⟨q_6, eq_6, h⟩ := pz_bd_e h
  refine r_Vv X S (cs_X3_readLevel eq_6) gd_X3_38 ⟨rfl, ny_X3_readLevel⟩ ⟨rfl, rfl⟩ ⟨Nat.le_of_ble_eq_true rfl, Nat.le_of_ble_eq_true rfl⟩ (r_recv X S (ly_ok_3 (by decide) S.2.2.2) rfl rfl) rfl rfl hl.1 (Nat.le_of_ble_eq_true rfl) dX3_readTape_28 (fun H locs S => ?_)
  refine lv_aload_n X.1 X.2.1 dX3_readTape_31 rfl (lv_at hl 0 rfl) ?_
  refine lv_bipush (v := 59) X.1 X.2.1 dX3_readTape_32 (by decide) ?_
  obtain ⟨q_7, eq_7, h⟩ := pz_bd_e h
  refine r_Vv X S (c_X3_pass eq_7) gd_X3_34 ⟨rfl, ny_X3_pass⟩ ⟨rfl, rfl⟩ ⟨Nat.le_of_ble_eq_true rfl, Nat.le_of_ble_eq_true rfl⟩ (r_recv X S (ly_ok_3 (by decide) S.2.2.2) rfl rfl) rfl rfl hl.1 (Nat.le_of_ble_eq_true rfl) dX3_readTape_34 (fun H locs S => ?_)
  refine lv_aload_n X.1 X.2.1 dX3_readTape_37 rfl (lv_at hl 0 rfl) ?_
  refine lv_aload_n X.1 X.2.1 dX3_readTape_38 rfl (lv_at hl 0 rfl) ?_
  refine gf_X3_22 X S (by decide) dX3_readTape_39 ?_
  refine pf_X3_42 X S (by decide) dX3_readTape_42 (fun I_8 H locs eI_8 S => ?_)
  have h := pz_lt_e h eI_8
  refine lv_aload_n X.1 X.2.1 dX3_readTape_45 rfl (lv_at hl 0 rfl) ?_
  refine lv_bipush (v := 108) X.1 X.2.1 dX3_readTape_46 (by decide) ?_
  obtain ⟨q_9, eq_9, h⟩ := pz_bd_e h
  refine r_Vv X S (c_X3_pass eq_9) gd_X3_34 ⟨rfl, ny_X3_pass⟩ ⟨rfl, rfl⟩ ⟨Nat.le_of_ble_eq_true rfl, Nat.le_of_ble_eq_true rfl⟩ (r_recv X S (ly_ok_3 (by decide) S.2.2.2) rfl rfl) rfl rfl hl.1 (Nat.le_of_ble_eq_true rfl) dX3_readTape_48 (fun H locs S => ?_)
  refine lv_aload_n X.1 X.2.1 dX3_readTape_51 rfl (lv_at hl 0 rfl) ?_
  refine lv_iconst (v := 0) X.1 X.2.1 dX3_readTape_52 (by decide) ?_
  refine lv_iconst (v := 0) X.1 X.2.1 dX3_readTape_53 (by decide) ?_
  obtain ⟨q_10, eq_10, h⟩ := pz_bd_e h
  refine r_Vv X S (cs_X3_readLevel eq_10) gd_X3_38 ⟨rfl, ny_X3_readLevel⟩ ⟨rfl, rfl⟩ ⟨Nat.le_of_ble_eq_true rfl, Nat.le_of_ble_eq_true rfl⟩ (r_recv X S (ly_ok_3 (by decide) S.2.2.2) rfl rfl) rfl rfl hl.1 (Nat.le_of_ble_eq_true rfl) dX3_readTape_54 (fun H locs S => ?_)
  refine lv_aload_n X.1 X.2.1 dX3_readTape_57 rfl (lv_at hl 0 rfl) ?_
  refine lv_bipush (v := 59) X.1 X.2.1 dX3_readTape_58 (by decide) ?_
  obtain ⟨q_11, eq_11, h⟩ := pz_bd_e h
  refine r_Vv X S (c_X3_pass eq_11) gd_X3_34 ⟨rfl, ny_X3_pass⟩ ⟨rfl, rfl⟩ ⟨Nat.le_of_ble_eq_true rfl, Nat.le_of_ble_eq_true rfl⟩ (r_recv X S (ly_ok_3 (by decide) S.2.2.2) rfl rfl) rfl rfl hl.1 (Nat.le_of_ble_eq_true rfl) dX3_readTape_60 (fun H locs S => ?_)
  refine lv_aload_n X.1 X.2.1 dX3_readTape_63 rfl (lv_at hl 0 rfl) ?_
  refine lv_aload_n X.1 X.2.1 dX3_readTape_64 rfl (lv_at hl 0 rfl) ?_
  refine gf_X3_22 X S (by decide) dX3_readTape_65 ?_
  refine pf_X3_45 X S (by decide) dX3_readTape_68 (fun I_12 H locs eI_12 S => ?_)
  have h := pz_lt_e h eI_12
  refine lv_aload_n X.1 X.2.1 dX3_readTape_71 rfl (lv_at hl 0 rfl) ?_
  refine lv_bipush (v := 109) X.1 X.2.1 dX3_readTape_72 (by decide) ?_
  obtain ⟨q_13, eq_13, h⟩ := pz_bd_e h
  refine r_Vv X S (c_X3_pass eq_13) gd_X3_34 ⟨rfl, ny_X3_pass⟩ ⟨rfl, rfl⟩ ⟨Nat.le_of_ble_eq_true rfl, Nat.le_of_ble_eq_true rfl⟩ (r_recv X S (ly_ok_3 (by decide) S.2.2.2) rfl rfl) rfl rfl hl.1 (Nat.le_of_ble_eq_true rfl) dX3_readTape_74 (fun H locs S => ?_)
  refine lv_aload_n X.1 X.2.1 dX3_readTape_77 rfl (lv_at hl 0 rfl) ?_
  refine lv_iconst (v := 0) X.1 X.2.1 dX3_readTape_78 (by decide) ?_
  refine lv_iconst (v := 0) X.1 X.2.1 dX3_readTape_79 (by decide) ?_
  obtain ⟨q_14, eq_14, h⟩ := pz_bd_e h
  refine r_Vv X S (cs_X3_readLevel eq_14) gd_X3_38 ⟨rfl, ny_X3_readLevel⟩ ⟨rfl, rfl⟩ ⟨Nat.le_of_ble_eq_true rfl, Nat.le_of_ble_eq_true rfl⟩ (r_recv X S (ly_ok_3 (by decide) S.2.2.2) rfl rfl) rfl rfl hl.1 (Nat.le_of_ble_eq_true rfl) dX3_readTape_80 (fun H locs S => ?_)
  refine lv_aload_n X.1 X.2.1 dX3_readTape_83 rfl (lv_at hl 0 rfl) ?_
  refine lv_bipush (v := 59) X.1 X.2.1 dX3_readTape_84 (by decide) ?_
  obtain ⟨q_15, eq_15, h⟩ := pz_bd_e h
  refine r_Vv X S (c_X3_pass eq_15) gd_X3_34 ⟨rfl, ny_X3_pass⟩ ⟨rfl, rfl⟩ ⟨Nat.le_of_ble_eq_true rfl, Nat.le_of_ble_eq_true rfl⟩ (r_recv X S (ly_ok_3 (by decide) S.2.2.2) rfl rfl) rfl rfl hl.1 (Nat.le_of_ble_eq_true rfl) dX3_readTape_86 (fun H locs S => ?_)
  refine lv_aload_n X.1 X.2.1 dX3_readTape_89 rfl (lv_at hl 0 rfl) ?_
  refine gf_X3_48 X S (by decide) dX3_readTape_90 ?_
  refine lv_iconst (v := 1) X.1 X.2.1 dX3_readTape_93 (by decide) ?_
  refine lv_icmp_eq (tgt := 101) X.1 X.2.1 dX3_readTape_94 (by decide) (fun c_16 => ?_) (fun c_16 => ?_)
  · have h := pz_t c_16 h
    exact w_X3_readTape_L101 X hn h S (lv_sub hl [0] rfl)
  have h := pz_f c_16 h
  refine lv_aload_n X.1 X.2.1 dX3_readTape_97 rfl (lv_at hl 0 rfl) ?_
  obtain ⟨q_17, eq_17, h⟩ := pz_bd_e h
  refine r_Vv X S (c_X3_fail eq_17) gd_X3_51 ⟨rfl, ny_X3_fail⟩ ⟨rfl, rfl⟩ ⟨Nat.le_of_ble_eq_true rfl, Nat.le_of_ble_eq_true rfl⟩ (r_recv X S (ly_ok_3 (by decide) S.2.2.2) rfl rfl) rfl rfl hl.1 (Nat.le_of_ble_eq_true rfl) dX3_readTape_98 (fun H locs S => ?_)
  exact w_X3_readTape_L101 X hn h S (lv_sub hl [0] rfl)
def f_X5_remake (N n : Nat) (I : mm_T) (i0 : Nat) (p1 : Int32) (p2 : Int32) : Option (mm_T) := pz_lt (mm_up I 5 i0 1 p1) fun I_1 => pz_lt (mm_up I_1 5 i0 2 p2) fun I_2 => pz_lt (mm_row I_2 27 i0 (pz_fill (I_2 27 i0) 40 (0 : Int32))) fun I_3 => some I_3
set_option maxRecDepth 100000 in
set_option maxHeartbeats 4000000 in
theorem c_X5_remake {l : Launch} {G : cx_T} {N n : Nat} {I J : mm_T} {i0 : Nat} {p1 : Int32} {p2 : Int32} (hn : 144 ≤ n) (hi0 : i0 < 4) {z : mm_T} (h : f_X5_remake N n I i0 p1 p2 = some z) : ct_m l G n yX5_remake cX5_remake 3 none ({ frames := 1, cells := 0, slots := 0, locals := 60 }) [.ref (cx_b G + ly_loc 5 i0), .int p1, .int p2] I J (ct_qv G n z J) := by
  refine ct_en (by decide) (Nat.le_of_ble_eq_true rfl) ?_
  intro p e s m args below meth c ls X S hl
  have X : cx_ok G p s m args meth c cX5_remake 3 RX5 none := X
  have hl : lv_has ls 3 [(0, .ref (cx_b G + ly_loc 5 i0)), (1, .int p1), (2, .int p2)] := hl
  unfold f_X5_remake at h
  refine lv_aload_n X.1 X.2.1 dX5_remake_0 rfl (lv_at hl 0 rfl) ?_
  refine lv_iload_n X.1 X.2.1 dX5_remake_1 rfl (lv_at hl 1 rfl) ?_
  refine pf_X5_15 X S hn hi0 dX5_remake_2 (fun I_1 H locs eI_1 S => ?_)
  have h := pz_lt_e h eI_1
  refine lv_aload_n X.1 X.2.1 dX5_remake_5 rfl (lv_at hl 0 rfl) ?_
  refine lv_iload_n X.1 X.2.1 dX5_remake_6 rfl (lv_at hl 2 rfl) ?_
  refine pf_X5_19 X S hn hi0 dX5_remake_7 (fun I_2 H locs eI_2 S => ?_)
  have h := pz_lt_e h eI_2
  refine lv_aload_n X.1 X.2.1 dX5_remake_10 rfl (lv_at hl 0 rfl) ?_
  refine gf_X5_9 X S hn hi0 dX5_remake_11 ?_
  refine lv_iconst (v := 0) X.1 X.2.1 dX5_remake_14 (by decide) ?_
  obtain ⟨I_3, eI_3⟩ : ∃ z, z = mm_row I_2 27 i0 (pz_fill (I_2 27 i0) 40 (0 : Int32)) := ⟨_, rfl⟩
  have h := pz_lt_e h eI_3
  refine r_Sv X S (c_fill (N := 40) (ly_ok_27 hi0 hn) rfl (fun _ => rfl) (Nat.le_of_ble_eq_true rfl)) gd_X5_22 ny_J7_fill_53178 ⟨rfl, rfl⟩ ⟨Nat.le_of_ble_eq_true rfl, Nat.le_of_ble_eq_true rfl⟩ rfl rfl hl.1 (Nat.le_of_ble_eq_true rfl) dX5_remake_15 (fun H locs S => ?_)
  rw [← eI_3] at S
  cases h
  exact r_vret X S dX5_remake_18
def f_X5_holds (N n : Nat) (I : mm_T) (i0 : Nat) (p1 : Int32) (p2 : Int32) : Option (Int32) := if p2 < 0 then (some (0 : Int32)) else (if (I 5 i0 2) < p2 then (some (0 : Int32)) else (if p1 < 0 then (some (0 : Int32)) else (if ((I 5 i0 2) - p2) < p1 then (some (0 : Int32)) else (some (1 : Int32)))))
set_option maxRecDepth 100000 in
set_option maxHeartbeats 4000000 in
theorem c_X5_holds {l : Launch} {G : cx_T} {N n : Nat} {I J : mm_T} {i0 : Nat} {p1 : Int32} {p2 : Int32} (hn : 144 ≤ n) (hi0 : i0 < 4) {z : Int32} (h : f_X5_holds N n I i0 p1 p2 = some z) : ct_m l G n yX5_holds cX5_holds 3 (some .boolean) ({ frames := 0, cells := 0, slots := 0, locals := 0 }) [.ref (cx_b G + ly_loc 5 i0), .int p1, .int p2] I J (ct_qi G n I J z) := by
  refine ct_en (by decide) (Nat.le_of_ble_eq_true rfl) ?_
  intro p e s m args below meth c ls X S hl
  have X : cx_ok G p s m args meth c cX5_holds 3 RX5 (some .boolean) := X
  have hl : lv_has ls 3 [(0, .ref (cx_b G + ly_loc 5 i0)), (1, .int p1), (2, .int p2)] := hl
  unfold f_X5_holds at h
  refine lv_iload_n X.1 X.2.1 dX5_holds_0 rfl (lv_at hl 2 rfl) ?_
  refine lv_if_lt (tgt := 30) X.1 X.2.1 dX5_holds_1 (by decide) (fun c_1 => ?_) (fun c_1 => ?_)
  · have h := pz_t c_1 h
    refine lv_iconst (v := 0) X.1 X.2.1 dX5_holds_30 (by decide) ?_
    cases h
    exact r_zret (v := 0) X S rfl dX5_holds_31
  have h := pz_f c_1 h
  refine lv_iload_n X.1 X.2.1 dX5_holds_4 rfl (lv_at hl 2 rfl) ?_
  refine lv_aload_n X.1 X.2.1 dX5_holds_5 rfl (lv_at hl 0 rfl) ?_
  refine gf_X5_19 X S hn hi0 dX5_holds_6 ?_
  refine lv_icmp_gt (tgt := 30) X.1 X.2.1 dX5_holds_9 (by decide) (fun c_2 => ?_) (fun c_2 => ?_)
  · have h := pz_t c_2 h
    refine lv_iconst (v := 0) X.1 X.2.1 dX5_holds_30 (by decide) ?_
    cases h
    exact r_zret (v := 0) X S rfl dX5_holds_31
  have h := pz_f c_2 h
  refine lv_iload_n X.1 X.2.1 dX5_holds_12 rfl (lv_at hl 1 rfl) ?_
  refine lv_if_lt (tgt := 30) X.1 X.2.1 dX5_holds_13 (by decide) (fun c_3 => ?_) (fun c_3 => ?_)
  · have h := pz_t c_3 h
    refine lv_iconst (v := 0) X.1 X.2.1 dX5_holds_30 (by decide) ?_
    cases h
    exact r_zret (v := 0) X S rfl dX5_holds_31
  have h := pz_f c_3 h
  refine lv_iload_n X.1 X.2.1 dX5_holds_16 rfl (lv_at hl 1 rfl) ?_
  refine lv_aload_n X.1 X.2.1 dX5_holds_17 rfl (lv_at hl 0 rfl) ?_
  refine gf_X5_19 X S hn hi0 dX5_holds_18 ?_
  refine lv_iload_n X.1 X.2.1 dX5_holds_21 rfl (lv_at hl 2 rfl) ?_
  refine lv_isub X.1 X.2.1 dX5_holds_22 ?_
  refine lv_icmp_gt (tgt := 30) X.1 X.2.1 dX5_holds_23 (by decide) (fun c_4 => ?_) (fun c_4 => ?_)
  · have h := pz_t c_4 h
    refine lv_iconst (v := 0) X.1 X.2.1 dX5_holds_30 (by decide) ?_
    cases h
    exact r_zret (v := 0) X S rfl dX5_holds_31
  have h := pz_f c_4 h
  refine lv_iconst (v := 1) X.1 X.2.1 dX5_holds_26 (by decide) ?_
  refine lv_goto (tgt := 31) X.1 X.2.1 dX5_holds_27 (by decide) ?_
  cases h
  exact r_zret (v := 1) X S rfl dX5_holds_31
def f_X5_put (N n : Nat) (I : mm_T) (i0 : Nat) (p1 : Int32) (p2 : Int32) : Option (mm_T) := if (I 5 i0 1) = 0 then (pz_gd (ix_in p1 40) <| pz_lt (mm_up I 27 i0 p1.toNatClampNeg (p2.toInt8.toInt32)) fun I_8 => some I_8) else (if (I 5 i0 1) = (1 : Int32) then (pz_gd (ix_in p1 40) <| pz_lt (mm_up I 27 i0 p1.toNatClampNeg (p2.toInt16.toInt32)) fun I_6 => some I_6) else (pz_gd (ix_in p1 40) <| pz_lt (mm_up I 27 i0 p1.toNatClampNeg p2) fun I_4 => some I_4))
set_option maxRecDepth 100000 in
set_option maxHeartbeats 4000000 in
theorem c_X5_put {l : Launch} {G : cx_T} {N n : Nat} {I J : mm_T} {i0 : Nat} {p1 : Int32} {p2 : Int32} (hn : 144 ≤ n) (hi0 : i0 < 4) {z : mm_T} (h : f_X5_put N n I i0 p1 p2 = some z) : ct_m l G n yX5_put cX5_put 3 none ({ frames := 0, cells := 0, slots := 0, locals := 0 }) [.ref (cx_b G + ly_loc 5 i0), .int p1, .int p2] I J (ct_qv G n z J) := by
  refine ct_en (by decide) (Nat.le_of_ble_eq_true rfl) ?_
  intro p e s m args below meth c ls X S hl
  have X : cx_ok G p s m args meth c cX5_put 3 RX5 none := X
  have hl : lv_has ls 3 [(0, .ref (cx_b G + ly_loc 5 i0)), (1, .int p1), (2, .int p2)] := hl
  unfold f_X5_put at h
  refine lv_aload_n X.1 X.2.1 dX5_put_0 rfl (lv_at hl 0 rfl) ?_
  refine gf_X5_9 X S hn hi0 dX5_put_1 ?_
  refine lv_iload_n X.1 X.2.1 dX5_put_4 rfl (lv_at hl 1 rfl) ?_
  refine lv_aload_n X.1 X.2.1 dX5_put_5 rfl (lv_at hl 0 rfl) ?_
  refine gf_X5_15 X S hn hi0 dX5_put_6 ?_
  refine lv_if_ne (tgt := 17) X.1 X.2.1 dX5_put_9 (by decide) (fun c_1 => ?_) (fun c_1 => ?_)
  · have h := pz_f c_1 h
    refine lv_aload_n X.1 X.2.1 dX5_put_17 rfl (lv_at hl 0 rfl) ?_
    refine gf_X5_15 X S hn hi0 dX5_put_18 ?_
    refine lv_iconst (v := 1) X.1 X.2.1 dX5_put_21 (by decide) ?_
    refine lv_icmp_ne (tgt := 30) X.1 X.2.1 dX5_put_22 (by decide) (fun c_2 => ?_) (fun c_2 => ?_)
    · have h := pz_f c_2 h
      refine lv_iload_n X.1 X.2.1 dX5_put_30 rfl (lv_at hl 2 rfl) ?_
      obtain ⟨g_3, h⟩ := pz_gd_e h
      refine as_27 X S hn hi0 g_3 dX5_put_31 (fun I_4 H locs eI_4 S => ?_)
      have h := pz_lt_e h eI_4
      cases h
      exact r_vret X S dX5_put_32
    have h := pz_t c_2 h
    refine lv_iload_n X.1 X.2.1 dX5_put_25 rfl (lv_at hl 2 rfl) ?_
    refine lv_i2s X.1 X.2.1 dX5_put_26 rfl ?_
    refine lv_goto (tgt := 31) X.1 X.2.1 dX5_put_27 (by decide) ?_
    obtain ⟨g_5, h⟩ := pz_gd_e h
    refine as_27 X S hn hi0 g_5 dX5_put_31 (fun I_6 H locs eI_6 S => ?_)
    have h := pz_lt_e h eI_6
    cases h
    exact r_vret X S dX5_put_32
  have h := pz_t c_1 h
  refine lv_iload_n X.1 X.2.1 dX5_put_12 rfl (lv_at hl 2 rfl) ?_
  refine lv_i2b X.1 X.2.1 dX5_put_13 rfl ?_
  refine lv_goto (tgt := 31) X.1 X.2.1 dX5_put_14 (by decide) ?_
  obtain ⟨g_7, h⟩ := pz_gd_e h
  refine as_27 X S hn hi0 g_7 dX5_put_31 (fun I_8 H locs eI_8 S => ?_)
  have h := pz_lt_e h eI_8
  cases h
  exact r_vret X S dX5_put_32
def f_X7_joined (N : Nat) (p1 : Int32) (p2 : Int32) (p3 : Int32) : Option (Int32) := pz_lt p1 fun x_1 => if x_1 = (42 : Int32) then (some (p2 * p3)) else if x_1 = (43 : Int32) then (some (p2 + p3)) else if x_1 = (45 : Int32) then (some (p2 - p3)) else if x_1 = (60 : Int32) then (if p3 ≤ p2 then (some (0 : Int32)) else (some (1 : Int32))) else if x_1 = (61 : Int32) then (if p2 = p3 then (some (1 : Int32)) else (some (0 : Int32))) else if x_1 = (111 : Int32) then (if p2 = 0 then (some (0 : Int32)) else (if p3 = 0 then (some (0 : Int32)) else (some (1 : Int32)))) else (if p2 = 0 then (if p3 = 0 then (some (0 : Int32)) else (some (1 : Int32))) else (some (1 : Int32)))
set_option maxRecDepth 100000 in
set_option maxHeartbeats 4000000 in
theorem c_X7_joined {l : Launch} {G : cx_T} {N n : Nat} {I J : mm_T} {p1 : Int32} {p2 : Int32} {p3 : Int32} {z : Int32} (h : f_X7_joined N p1 p2 p3 = some z) : ct_m l G n yX7_joined cX7_joined 3 (some .int) ({ frames := 0, cells := 0, slots := 0, locals := 0 }) [.int p1, .int p2, .int p3] I J (ct_qi G n I J z) := by
  refine ct_en (by decide) (Nat.le_of_ble_eq_true rfl) ?_
  intro p e s m args below meth c ls X S hl
  have X : cx_ok G p s m args meth c cX7_joined 3 RX7 (some .int) := X
  have hl : lv_has ls 3 [(0, .int p1), (1, .int p2), (2, .int p3)] := hl
  have hn := S.2.2.2
  unfold f_X7_joined at h
  refine lv_iload_n X.1 X.2.1 dX7_joined_0 rfl (lv_at hl 0 rfl) ?_
  refine lv_topi (fun x_1 ex_1 => ?_)
  have h := pz_lt_e h ex_1
  rcases Decidable.em (x_1 = (42 : Int32)) with c_2 | c_2
  · have h := pz_t c_2 h
    refine lv_lookup (off := 67) (tgt := 68) X.1 X.2.1 dX7_joined_1 (by decide +kernel) (by rw [c_2]; decide +kernel) (by decide) ?_
    refine lv_iload_n X.1 X.2.1 dX7_joined_68 rfl (lv_at hl 1 rfl) ?_
    refine lv_iload_n X.1 X.2.1 dX7_joined_69 rfl (lv_at hl 2 rfl) ?_
    refine lv_imul X.1 X.2.1 dX7_joined_70 ?_
    cases h
    exact r_iret X S dX7_joined_71
  have h := pz_f c_2 h
  rcases Decidable.em (x_1 = (43 : Int32)) with c_3 | c_3
  · have h := pz_t c_3 h
    refine lv_lookup (off := 59) (tgt := 60) X.1 X.2.1 dX7_joined_1 (by decide +kernel) (by rw [c_3]; decide +kernel) (by decide) ?_
    refine lv_iload_n X.1 X.2.1 dX7_joined_60 rfl (lv_at hl 1 rfl) ?_
    refine lv_iload_n X.1 X.2.1 dX7_joined_61 rfl (lv_at hl 2 rfl) ?_
    refine lv_iadd X.1 X.2.1 dX7_joined_62 ?_
    cases h
    exact r_iret X S dX7_joined_63
  have h := pz_f c_3 h
  rcases Decidable.em (x_1 = (45 : Int32)) with c_4 | c_4
  · have h := pz_t c_4 h
    refine lv_lookup (off := 63) (tgt := 64) X.1 X.2.1 dX7_joined_1 (by decide +kernel) (by rw [c_4]; decide +kernel) (by decide) ?_
    refine lv_iload_n X.1 X.2.1 dX7_joined_64 rfl (lv_at hl 1 rfl) ?_
    refine lv_iload_n X.1 X.2.1 dX7_joined_65 rfl (lv_at hl 2 rfl) ?_
    refine lv_isub X.1 X.2.1 dX7_joined_66 ?_
    cases h
    exact r_iret X S dX7_joined_67
  have h := pz_f c_4 h
  rcases Decidable.em (x_1 = (60 : Int32)) with c_5 | c_5
  · have h := pz_t c_5 h
    refine lv_lookup (off := 71) (tgt := 72) X.1 X.2.1 dX7_joined_1 (by decide +kernel) (by rw [c_5]; decide +kernel) (by decide) ?_
    refine lv_iload_n X.1 X.2.1 dX7_joined_72 rfl (lv_at hl 1 rfl) ?_
    refine lv_iload_n X.1 X.2.1 dX7_joined_73 rfl (lv_at hl 2 rfl) ?_
    refine lv_icmp_ge (tgt := 81) X.1 X.2.1 dX7_joined_74 (by decide) (fun c_6 => ?_) (fun c_6 => ?_)
    · have h := pz_t c_6 h
      refine lv_iconst (v := 0) X.1 X.2.1 dX7_joined_81 (by decide) ?_
      cases h
      exact r_iret X S dX7_joined_82
    have h := pz_f c_6 h
    refine lv_iconst (v := 1) X.1 X.2.1 dX7_joined_77 (by decide) ?_
    refine lv_goto (tgt := 82) X.1 X.2.1 dX7_joined_78 (by decide) ?_
    cases h
    exact r_iret X S dX7_joined_82
  have h := pz_f c_5 h
  rcases Decidable.em (x_1 = (61 : Int32)) with c_7 | c_7
  · have h := pz_t c_7 h
    refine lv_lookup (off := 82) (tgt := 83) X.1 X.2.1 dX7_joined_1 (by decide +kernel) (by rw [c_7]; decide +kernel) (by decide) ?_
    refine lv_iload_n X.1 X.2.1 dX7_joined_83 rfl (lv_at hl 1 rfl) ?_
    refine lv_iload_n X.1 X.2.1 dX7_joined_84 rfl (lv_at hl 2 rfl) ?_
    refine lv_icmp_ne (tgt := 92) X.1 X.2.1 dX7_joined_85 (by decide) (fun c_8 => ?_) (fun c_8 => ?_)
    · have h := pz_f c_8 h
      refine lv_iconst (v := 0) X.1 X.2.1 dX7_joined_92 (by decide) ?_
      cases h
      exact r_iret X S dX7_joined_93
    have h := pz_t c_8 h
    refine lv_iconst (v := 1) X.1 X.2.1 dX7_joined_88 (by decide) ?_
    refine lv_goto (tgt := 93) X.1 X.2.1 dX7_joined_89 (by decide) ?_
    cases h
    exact r_iret X S dX7_joined_93
  have h := pz_f c_7 h
  rcases Decidable.em (x_1 = (111 : Int32)) with c_9 | c_9
  · have h := pz_t c_9 h
    refine lv_lookup (off := 93) (tgt := 94) X.1 X.2.1 dX7_joined_1 (by decide +kernel) (by rw [c_9]; decide +kernel) (by decide) ?_
    refine lv_iload_n X.1 X.2.1 dX7_joined_94 rfl (lv_at hl 1 rfl) ?_
    refine lv_if_eq (tgt := 106) X.1 X.2.1 dX7_joined_95 (by decide) (fun c_10 => ?_) (fun c_10 => ?_)
    · have h := pz_t c_10 h
      refine lv_iconst (v := 0) X.1 X.2.1 dX7_joined_106 (by decide) ?_
      cases h
      exact r_iret X S dX7_joined_107
    have h := pz_f c_10 h
    refine lv_iload_n X.1 X.2.1 dX7_joined_98 rfl (lv_at hl 2 rfl) ?_
    refine lv_if_eq (tgt := 106) X.1 X.2.1 dX7_joined_99 (by decide) (fun c_11 => ?_) (fun c_11 => ?_)
    · have h := pz_t c_11 h
      refine lv_iconst (v := 0) X.1 X.2.1 dX7_joined_106 (by decide) ?_
      cases h
      exact r_iret X S dX7_joined_107
    have h := pz_f c_11 h
    refine lv_iconst (v := 1) X.1 X.2.1 dX7_joined_102 (by decide) ?_
    refine lv_goto (tgt := 107) X.1 X.2.1 dX7_joined_103 (by decide) ?_
    cases h
    exact r_iret X S dX7_joined_107
  have h := pz_f c_9 h
  refine lv_lookup (off := 107) (tgt := 108) X.1 X.2.1 dX7_joined_1 (by decide +kernel) (show Op.lookupswitch.offset [(42, 67), (43, 59), (45, 63), (60, 71), (61, 82), (111, 93)] 107 x_1.toInt = 107 by rw [lv_osw c_2 (show ((42 : Int32)).toInt = 42 by decide +kernel), lv_osw c_3 (show ((43 : Int32)).toInt = 43 by decide +kernel), lv_osw c_4 (show ((45 : Int32)).toInt = 45 by decide +kernel), lv_osw c_5 (show ((60 : Int32)).toInt = 60 by decide +kernel), lv_osw c_7 (show ((61 : Int32)).toInt = 61 by decide +kernel), lv_osw c_9 (show ((111 : Int32)).toInt = 111 by decide +kernel)]; rfl) (by decide) ?_
  refine lv_iload_n X.1 X.2.1 dX7_joined_108 rfl (lv_at hl 1 rfl) ?_
  refine lv_if_ne (tgt := 116) X.1 X.2.1 dX7_joined_109 (by decide) (fun c_12 => ?_) (fun c_12 => ?_)
  · have h := pz_f c_12 h
    refine lv_iconst (v := 1) X.1 X.2.1 dX7_joined_116 (by decide) ?_
    refine lv_goto (tgt := 121) X.1 X.2.1 dX7_joined_117 (by decide) ?_
    cases h
    exact r_iret X S dX7_joined_121
  have h := pz_t c_12 h
  refine lv_iload_n X.1 X.2.1 dX7_joined_112 rfl (lv_at hl 2 rfl) ?_
  refine lv_if_eq (tgt := 120) X.1 X.2.1 dX7_joined_113 (by decide) (fun c_13 => ?_) (fun c_13 => ?_)
  · have h := pz_t c_13 h
    refine lv_iconst (v := 0) X.1 X.2.1 dX7_joined_120 (by decide) ?_
    cases h
    exact r_iret X S dX7_joined_121
  have h := pz_f c_13 h
  refine lv_iconst (v := 1) X.1 X.2.1 dX7_joined_116 (by decide) ?_
  refine lv_goto (tgt := 121) X.1 X.2.1 dX7_joined_117 (by decide) ?_
  cases h
  exact r_iret X S dX7_joined_121
def f_X7_worth_L253 (N n : Nat) (t0 : Int32) (p1 : Int32) (i2 : Nat) (k61 : mm_T → Int32 → Int32 → Int32 → Option (mm_T × Int32)) (I : mm_T) (a4 : Int32) (a5 : Int32) (a6 : Int32) : Option (mm_T × Int32) := pz_lt (a6 + (1 : Int32)) fun x_27 => k61 I a4 a5 x_27
set_option maxRecDepth 100000 in
set_option maxHeartbeats 4000000 in
theorem w_X7_worth_L253 {l : Launch} {G : cx_T} {p : Program} {e : Env} {s : State} {m : MethodId} {args : Array Value} {below : List Frame} {meth : Method} {c : Code} {N n : Nat} {J : mm_T} {t0 : Int32} {p1 : Int32} {i2 : Nat} (X : cx_ok G p s m args meth c cX7_worth 9 RX7 (some .int)) (hn : 144 ≤ n) (ht0 : 3 * t0.toNatClampNeg + 144 ≤ n) (hi2 : i2 < 9) {k61 : mm_T → Int32 → Int32 → Int32 → Option (mm_T × Int32)} {z : mm_T × Int32} (K61 : ∀ {I : mm_T} {a4 : Int32} {a5 : Int32} {a6 : Int32} {H : Heap} {locs : List Loc} {ls : Array Slot}, k61 I a4 a5 a6 = some z → st_ok G n I J s H locs → lv_has ls 9 [(0, .ref (cx_b G + ly_loc 7 t0.toNatClampNeg)), (2, .ref (cx_b G + ly_loc 10 i2)), (4, .int a4), (5, .int a5), (6, .int a6)] → W p l e ({ frames := 1, cells := 0, slots := 0, locals := 22 }) s m args below meth c H locs 0 0 (MQ below (ct_qi G n z.1 J z.2) args s 0 0 (cx_A G)) (F0 m 61 ls [])) {I : mm_T} {a4 : Int32} {a5 : Int32} {a6 : Int32} {H : Heap} {locs : List Loc} {ls : Array Slot} (h : f_X7_worth_L253 N n t0 p1 i2 k61 I a4 a5 a6 = some z) (S : st_ok G n I J s H locs) (hl : lv_has ls 9 [(0, .ref (cx_b G + ly_loc 7 t0.toNatClampNeg)), (2, .ref (cx_b G + ly_loc 10 i2)), (4, .int a4), (5, .int a5), (6, .int a6)]) : W p l e ({ frames := 1, cells := 0, slots := 0, locals := 22 }) s m args below meth c H locs 0 0 (MQ below (ct_qi G n z.1 J z.2) args s 0 0 (cx_A G)) (F0 m 253 ls []) := by
  unfold f_X7_worth_L253 at h
  obtain ⟨x_27, ex_27⟩ : ∃ y : Int32, y = (a6 + (1 : Int32)) := ⟨_, rfl⟩
  have h := pz_lt_e h ex_27
  refine lv_iinc (v := x_27) (lv' := [(6, .int x_27), (0, .ref (cx_b G + ly_loc 7 t0.toNatClampNeg)), (2, .ref (cx_b G + ly_loc 10 i2)), (4, .int a4), (5, .int a5)]) X.1 X.2.1 dX7_worth_253 hl (k := 4) rfl (by rw [ex_27]; rfl) (by decide) rfl (fun ls hl => ?_)
  refine lv_goto (tgt := 61) X.1 X.2.1 dX7_worth_256 (by decide) ?_
  exact K61 h S (lv_sub hl [1, 2, 3, 4, 0] rfl)
def f_X7_worth_L131 (N n : Nat) (t0 : Int32) (p1 : Int32) (i2 : Nat) (k61 : mm_T → Int32 → Int32 → Int32 → Option (mm_T × Int32)) (I : mm_T) (a4 : Int32) (a5 : Int32) (a6 : Int32) (s0 : Int32) (s1 : Int32) : Option (mm_T × Int32) := pz_gd (ix_in s1 31) <| pz_lt (mm_up I 29 t0.toNatClampNeg s1.toNatClampNeg s0) fun I_21 => pz_lt (a5 + (1 : Int32)) fun x_22 => f_X7_worth_L253 N n t0 p1 i2 k61 I_21 a4 x_22 a6
set_option maxRecDepth 100000 in
set_option maxHeartbeats 4000000 in
theorem w_X7_worth_L131 {l : Launch} {G : cx_T} {p : Program} {e : Env} {s : State} {m : MethodId} {args : Array Value} {below : List Frame} {meth : Method} {c : Code} {N n : Nat} {J : mm_T} {t0 : Int32} {p1 : Int32} {i2 : Nat} (X : cx_ok G p s m args meth c cX7_worth 9 RX7 (some .int)) (hn : 144 ≤ n) (ht0 : 3 * t0.toNatClampNeg + 144 ≤ n) (hi2 : i2 < 9) {k61 : mm_T → Int32 → Int32 → Int32 → Option (mm_T × Int32)} {z : mm_T × Int32} (K61 : ∀ {I : mm_T} {a4 : Int32} {a5 : Int32} {a6 : Int32} {H : Heap} {locs : List Loc} {ls : Array Slot}, k61 I a4 a5 a6 = some z → st_ok G n I J s H locs → lv_has ls 9 [(0, .ref (cx_b G + ly_loc 7 t0.toNatClampNeg)), (2, .ref (cx_b G + ly_loc 10 i2)), (4, .int a4), (5, .int a5), (6, .int a6)] → W p l e ({ frames := 1, cells := 0, slots := 0, locals := 22 }) s m args below meth c H locs 0 0 (MQ below (ct_qi G n z.1 J z.2) args s 0 0 (cx_A G)) (F0 m 61 ls [])) {I : mm_T} {a4 : Int32} {a5 : Int32} {a6 : Int32} {s0 : Int32} {s1 : Int32} {H : Heap} {locs : List Loc} {ls : Array Slot} (h : f_X7_worth_L131 N n t0 p1 i2 k61 I a4 a5 a6 s0 s1 = some z) (S : st_ok G n I J s H locs) (hl : lv_has ls 9 [(0, .ref (cx_b G + ly_loc 7 t0.toNatClampNeg)), (2, .ref (cx_b G + ly_loc 10 i2)), (4, .int a4), (5, .int a5), (6, .int a6)]) : W p l e ({ frames := 1, cells := 0, slots := 0, locals := 22 }) s m args below meth c H locs 0 0 (MQ below (ct_qi G n z.1 J z.2) args s 0 0 (cx_A G)) (F0 m 131 ls [.int s0, .int s1, .ref (cx_b G + ly_loc 29 t0.toNatClampNeg)]) := by
  unfold f_X7_worth_L131 at h
  obtain ⟨g_20, h⟩ := pz_gd_e h
  refine as_29 X S ht0 g_20 dX7_worth_131 (fun I_21 H locs eI_21 S => ?_)
  have h := pz_lt_e h eI_21
  obtain ⟨x_22, ex_22⟩ : ∃ y : Int32, y = (a5 + (1 : Int32)) := ⟨_, rfl⟩
  have h := pz_lt_e h ex_22
  refine lv_iinc (v := x_22) (lv' := [(5, .int x_22), (0, .ref (cx_b G + ly_loc 7 t0.toNatClampNeg)), (2, .ref (cx_b G + ly_loc 10 i2)), (4, .int a4), (6, .int a6)]) X.1 X.2.1 dX7_worth_132 hl (k := 3) rfl (by rw [ex_22]; rfl) (by decide) rfl (fun ls hl => ?_)
  refine lv_goto (tgt := 253) X.1 X.2.1 dX7_worth_135 (by decide) ?_
  exact w_X7_worth_L253 X hn ht0 hi2 K61 h S (lv_sub hl [1, 2, 3, 0, 4] rfl)
def f_X7_worth_L102 (N n : Nat) (t0 : Int32) (p1 : Int32) (i2 : Nat) (k61 : mm_T → Int32 → Int32 → Int32 → Option (mm_T × Int32)) (I : mm_T) (a4 : Int32) (a5 : Int32) (a6 : Int32) (a7 : Int32) (a8 : Int32) : Option (mm_T × Int32) := if a5 < (31 : Int32) then (if a7 < 0 then (pz_gd (ix_in a8 6) <| f_X7_worth_L131 N n t0 p1 i2 k61 I a4 a5 a6 (I 10 i2 a8.toNatClampNeg) a5) else (f_X7_worth_L131 N n t0 p1 i2 k61 I a4 a5 a6 a7 a5)) else (some (I, (0 : Int32)))
set_option maxRecDepth 100000 in
set_option maxHeartbeats 4000000 in
theorem w_X7_worth_L102 {l : Launch} {G : cx_T} {p : Program} {e : Env} {s : State} {m : MethodId} {args : Array Value} {below : List Frame} {meth : Method} {c : Code} {N n : Nat} {J : mm_T} {t0 : Int32} {p1 : Int32} {i2 : Nat} (X : cx_ok G p s m args meth c cX7_worth 9 RX7 (some .int)) (hn : 144 ≤ n) (ht0 : 3 * t0.toNatClampNeg + 144 ≤ n) (hi2 : i2 < 9) {k61 : mm_T → Int32 → Int32 → Int32 → Option (mm_T × Int32)} {z : mm_T × Int32} (K61 : ∀ {I : mm_T} {a4 : Int32} {a5 : Int32} {a6 : Int32} {H : Heap} {locs : List Loc} {ls : Array Slot}, k61 I a4 a5 a6 = some z → st_ok G n I J s H locs → lv_has ls 9 [(0, .ref (cx_b G + ly_loc 7 t0.toNatClampNeg)), (2, .ref (cx_b G + ly_loc 10 i2)), (4, .int a4), (5, .int a5), (6, .int a6)] → W p l e ({ frames := 1, cells := 0, slots := 0, locals := 22 }) s m args below meth c H locs 0 0 (MQ below (ct_qi G n z.1 J z.2) args s 0 0 (cx_A G)) (F0 m 61 ls [])) {I : mm_T} {a4 : Int32} {a5 : Int32} {a6 : Int32} {a7 : Int32} {a8 : Int32} {H : Heap} {locs : List Loc} {ls : Array Slot} (h : f_X7_worth_L102 N n t0 p1 i2 k61 I a4 a5 a6 a7 a8 = some z) (S : st_ok G n I J s H locs) (hl : lv_has ls 9 [(0, .ref (cx_b G + ly_loc 7 t0.toNatClampNeg)), (2, .ref (cx_b G + ly_loc 10 i2)), (4, .int a4), (5, .int a5), (6, .int a6), (7, .int a7), (8, .int a8)]) : W p l e ({ frames := 1, cells := 0, slots := 0, locals := 22 }) s m args below meth c H locs 0 0 (MQ below (ct_qi G n z.1 J z.2) args s 0 0 (cx_A G)) (F0 m 102 ls []) := by
  unfold f_X7_worth_L102 at h
  refine lv_iload X.1 X.2.1 dX7_worth_102 (lv_at hl 3 rfl) ?_
  refine lv_bipush (v := 31) X.1 X.2.1 dX7_worth_104 (by decide) ?_
  refine lv_icmp_lt (tgt := 111) X.1 X.2.1 dX7_worth_106 (by decide) (fun c_12 => ?_) (fun c_12 => ?_)
  · have h := pz_t c_12 h
    refine lv_aload_n X.1 X.2.1 dX7_worth_111 rfl (lv_at hl 0 rfl) ?_
    refine gf_X7_9 X S ht0 dX7_worth_112 ?_
    refine lv_iload X.1 X.2.1 dX7_worth_115 (lv_at hl 3 rfl) ?_
    refine lv_iload X.1 X.2.1 dX7_worth_117 (lv_at hl 5 rfl) ?_
    refine lv_if_lt (tgt := 127) X.1 X.2.1 dX7_worth_119 (by decide) (fun c_13 => ?_) (fun c_13 => ?_)
    · have h := pz_t c_13 h
      refine lv_aload_n X.1 X.2.1 dX7_worth_127 rfl (lv_at hl 1 rfl) ?_
      refine lv_iload X.1 X.2.1 dX7_worth_128 (lv_at hl 6 rfl) ?_
      obtain ⟨g_14, h⟩ := pz_gd_e h
      refine al_10 X S hi2 g_14 dX7_worth_130 ?_
      exact w_X7_worth_L131 X hn ht0 hi2 K61 h S (lv_sub hl [0, 1, 2, 3, 4] rfl)
    have h := pz_f c_13 h
    refine lv_iload X.1 X.2.1 dX7_worth_122 (lv_at hl 5 rfl) ?_
    refine lv_goto (tgt := 131) X.1 X.2.1 dX7_worth_124 (by decide) ?_
    exact w_X7_worth_L131 X hn ht0 hi2 K61 h S (lv_sub hl [0, 1, 2, 3, 4] rfl)
  have h := pz_f c_12 h
  refine lv_iconst (v := 0) X.1 X.2.1 dX7_worth_109 (by decide) ?_
  cases h
  exact r_iret X S dX7_worth_110
def f_X7_worth_L209 (N n : Nat) (t0 : Int32) (p1 : Int32) (i2 : Nat) (k61 : mm_T → Int32 → Int32 → Int32 → Option (mm_T × Int32)) (I : mm_T) (a4 : Int32) (a5 : Int32) (a6 : Int32) (s0 : Int32) (s1 : Int32) : Option (mm_T × Int32) := pz_gd (ix_in s1 31) <| pz_lt (mm_up I 29 t0.toNatClampNeg s1.toNatClampNeg s0) fun I_36 => f_X7_worth_L253 N n t0 p1 i2 k61 I_36 a4 a5 a6
set_option maxRecDepth 100000 in
set_option maxHeartbeats 4000000 in
theorem w_X7_worth_L209 {l : Launch} {G : cx_T} {p : Program} {e : Env} {s : State} {m : MethodId} {args : Array Value} {below : List Frame} {meth : Method} {c : Code} {N n : Nat} {J : mm_T} {t0 : Int32} {p1 : Int32} {i2 : Nat} (X : cx_ok G p s m args meth c cX7_worth 9 RX7 (some .int)) (hn : 144 ≤ n) (ht0 : 3 * t0.toNatClampNeg + 144 ≤ n) (hi2 : i2 < 9) {k61 : mm_T → Int32 → Int32 → Int32 → Option (mm_T × Int32)} {z : mm_T × Int32} (K61 : ∀ {I : mm_T} {a4 : Int32} {a5 : Int32} {a6 : Int32} {H : Heap} {locs : List Loc} {ls : Array Slot}, k61 I a4 a5 a6 = some z → st_ok G n I J s H locs → lv_has ls 9 [(0, .ref (cx_b G + ly_loc 7 t0.toNatClampNeg)), (2, .ref (cx_b G + ly_loc 10 i2)), (4, .int a4), (5, .int a5), (6, .int a6)] → W p l e ({ frames := 1, cells := 0, slots := 0, locals := 22 }) s m args below meth c H locs 0 0 (MQ below (ct_qi G n z.1 J z.2) args s 0 0 (cx_A G)) (F0 m 61 ls [])) {I : mm_T} {a4 : Int32} {a5 : Int32} {a6 : Int32} {s0 : Int32} {s1 : Int32} {H : Heap} {locs : List Loc} {ls : Array Slot} (h : f_X7_worth_L209 N n t0 p1 i2 k61 I a4 a5 a6 s0 s1 = some z) (S : st_ok G n I J s H locs) (hl : lv_has ls 9 [(0, .ref (cx_b G + ly_loc 7 t0.toNatClampNeg)), (2, .ref (cx_b G + ly_loc 10 i2)), (4, .int a4), (5, .int a5), (6, .int a6)]) : W p l e ({ frames := 1, cells := 0, slots := 0, locals := 22 }) s m args below meth c H locs 0 0 (MQ below (ct_qi G n z.1 J z.2) args s 0 0 (cx_A G)) (F0 m 209 ls [.int s0, .int s1, .ref (cx_b G + ly_loc 29 t0.toNatClampNeg)]) := by
  unfold f_X7_worth_L209 at h
  obtain ⟨g_35, h⟩ := pz_gd_e h
  refine as_29 X S ht0 g_35 dX7_worth_209 (fun I_36 H locs eI_36 S => ?_)
  have h := pz_lt_e h eI_36
  refine lv_goto (tgt := 253) X.1 X.2.1 dX7_worth_210 (by decide) ?_
  exact w_X7_worth_L253 X hn ht0 hi2 K61 h S (lv_sub hl [0, 1, 2, 3, 4] rfl)
def f_X7_worth_L213 (N n : Nat) (t0 : Int32) (p1 : Int32) (i2 : Nat) (k61 : mm_T → Int32 → Int32 → Int32 → Option (mm_T × Int32)) (I : mm_T) (a4 : Int32) (a5 : Int32) (a6 : Int32) (a7 : Int32) : Option (mm_T × Int32) := if a5 ≤ (1 : Int32) then (f_X7_worth_L253 N n t0 p1 i2 k61 I a4 a5 a6) else (pz_lt (a5 + (-1 : Int32)) fun x_29 => pz_gd (ix_in (x_29 - (1 : Int32)) 31) <| pz_gd (ix_in x_29 31) <| pz_bd (f_X7_joined N (-a7) (I 29 t0.toNatClampNeg (x_29 - (1 : Int32)).toNatClampNeg) (I 29 t0.toNatClampNeg x_29.toNatClampNeg)) fun q_32 => pz_gd (ix_in (x_29 - (1 : Int32)) 31) <| pz_lt (mm_up I 29 t0.toNatClampNeg (x_29 - (1 : Int32)).toNatClampNeg q_32) fun I_34 => f_X7_worth_L253 N n t0 p1 i2 k61 I_34 a4 x_29 a6)
set_option maxRecDepth 100000 in
set_option maxHeartbeats 4000000 in
theorem w_X7_worth_L213 {l : Launch} {G : cx_T} {p : Program} {e : Env} {s : State} {m : MethodId} {args : Array Value} {below : List Frame} {meth : Method} {c : Code} {N n : Nat} {J : mm_T} {t0 : Int32} {p1 : Int32} {i2 : Nat} (X : cx_ok G p s m args meth c cX7_worth 9 RX7 (some .int)) (hn : 144 ≤ n) (ht0 : 3 * t0.toNatClampNeg + 144 ≤ n) (hi2 : i2 < 9) {k61 : mm_T → Int32 → Int32 → Int32 → Option (mm_T × Int32)} {z : mm_T × Int32} (K61 : ∀ {I : mm_T} {a4 : Int32} {a5 : Int32} {a6 : Int32} {H : Heap} {locs : List Loc} {ls : Array Slot}, k61 I a4 a5 a6 = some z → st_ok G n I J s H locs → lv_has ls 9 [(0, .ref (cx_b G + ly_loc 7 t0.toNatClampNeg)), (2, .ref (cx_b G + ly_loc 10 i2)), (4, .int a4), (5, .int a5), (6, .int a6)] → W p l e ({ frames := 1, cells := 0, slots := 0, locals := 22 }) s m args below meth c H locs 0 0 (MQ below (ct_qi G n z.1 J z.2) args s 0 0 (cx_A G)) (F0 m 61 ls [])) {I : mm_T} {a4 : Int32} {a5 : Int32} {a6 : Int32} {a7 : Int32} {H : Heap} {locs : List Loc} {ls : Array Slot} (h : f_X7_worth_L213 N n t0 p1 i2 k61 I a4 a5 a6 a7 = some z) (S : st_ok G n I J s H locs) (hl : lv_has ls 9 [(0, .ref (cx_b G + ly_loc 7 t0.toNatClampNeg)), (2, .ref (cx_b G + ly_loc 10 i2)), (4, .int a4), (5, .int a5), (6, .int a6), (7, .int a7)]) : W p l e ({ frames := 1, cells := 0, slots := 0, locals := 22 }) s m args below meth c H locs 0 0 (MQ below (ct_qi G n z.1 J z.2) args s 0 0 (cx_A G)) (F0 m 213 ls []) := by
  unfold f_X7_worth_L213 at h
  refine lv_iload X.1 X.2.1 dX7_worth_213 (lv_at hl 3 rfl) ?_
  refine lv_iconst (v := 1) X.1 X.2.1 dX7_worth_215 (by decide) ?_
  refine lv_icmp_le (tgt := 253) X.1 X.2.1 dX7_worth_216 (by decide) (fun c_28 => ?_) (fun c_28 => ?_)
  · have h := pz_t c_28 h
    exact w_X7_worth_L253 X hn ht0 hi2 K61 h S (lv_sub hl [0, 1, 2, 3, 4] rfl)
  have h := pz_f c_28 h
  obtain ⟨x_29, ex_29⟩ : ∃ y : Int32, y = (a5 + (-1 : Int32)) := ⟨_, rfl⟩
  have h := pz_lt_e h ex_29
  refine lv_iinc (v := x_29) (lv' := [(5, .int x_29), (0, .ref (cx_b G + ly_loc 7 t0.toNatClampNeg)), (2, .ref (cx_b G + ly_loc 10 i2)), (4, .int a4), (6, .int a6), (7, .int a7)]) X.1 X.2.1 dX7_worth_219 hl (k := 3) rfl (by rw [ex_29]; rfl) (by decide) rfl (fun ls hl => ?_)
  refine lv_aload_n X.1 X.2.1 dX7_worth_222 rfl (lv_at hl 1 rfl) ?_
  refine gf_X7_9 X S ht0 dX7_worth_223 ?_
  refine lv_iload X.1 X.2.1 dX7_worth_226 (lv_at hl 0 rfl) ?_
  refine lv_iconst (v := 1) X.1 X.2.1 dX7_worth_228 (by decide) ?_
  refine lv_isub X.1 X.2.1 dX7_worth_229 ?_
  refine lv_iload X.1 X.2.1 dX7_worth_230 (lv_at hl 5 rfl) ?_
  refine lv_ineg X.1 X.2.1 dX7_worth_232 ?_
  refine lv_aload_n X.1 X.2.1 dX7_worth_233 rfl (lv_at hl 1 rfl) ?_
  refine gf_X7_9 X S ht0 dX7_worth_234 ?_
  refine lv_iload X.1 X.2.1 dX7_worth_237 (lv_at hl 0 rfl) ?_
  refine lv_iconst (v := 1) X.1 X.2.1 dX7_worth_239 (by decide) ?_
  refine lv_isub X.1 X.2.1 dX7_worth_240 ?_
  obtain ⟨g_30, h⟩ := pz_gd_e h
  refine al_29 X S ht0 g_30 dX7_worth_241 ?_
  refine lv_aload_n X.1 X.2.1 dX7_worth_242 rfl (lv_at hl 1 rfl) ?_
  refine gf_X7_9 X S ht0 dX7_worth_243 ?_
  refine lv_iload X.1 X.2.1 dX7_worth_246 (lv_at hl 0 rfl) ?_
  obtain ⟨g_31, h⟩ := pz_gd_e h
  refine al_29 X S ht0 g_31 dX7_worth_248 ?_
  obtain ⟨q_32, eq_32, h⟩ := pz_bd_e h
  refine r_Si X S (c_X7_joined eq_32) gd_X7_25 ny_X7_joined ⟨rfl, rfl⟩ ⟨Nat.le_of_ble_eq_true rfl, Nat.le_of_ble_eq_true rfl⟩ rfl rfl hl.1 (Nat.le_of_ble_eq_true rfl) dX7_worth_249 (fun H locs S => ?_)
  obtain ⟨g_33, h⟩ := pz_gd_e h
  refine as_29 X S ht0 g_33 dX7_worth_252 (fun I_34 H locs eI_34 S => ?_)
  have h := pz_lt_e h eI_34
  exact w_X7_worth_L253 X hn ht0 hi2 K61 h S (lv_sub hl [1, 2, 3, 0, 4] rfl)
def f_X7_worth_L172 (N n : Nat) (t0 : Int32) (p1 : Int32) (i2 : Nat) (k61 : mm_T → Int32 → Int32 → Int32 → Option (mm_T × Int32)) (I : mm_T) (a4 : Int32) (a5 : Int32) (a6 : Int32) (a7 : Int32) : Option (mm_T × Int32) := if a5 ≤ 0 then (f_X7_worth_L213 N n t0 p1 i2 k61 I a4 a5 a6 a7) else (if a7 = (-112 : Int32) then (pz_gd (ix_in (a5 - (1 : Int32)) 31) <| if (I 29 t0.toNatClampNeg (a5 - (1 : Int32)).toNatClampNeg) = 0 then (f_X7_worth_L209 N n t0 p1 i2 k61 I a4 a5 a6 (1 : Int32) (a5 - (1 : Int32))) else (f_X7_worth_L209 N n t0 p1 i2 k61 I a4 a5 a6 (0 : Int32) (a5 - (1 : Int32)))) else (f_X7_worth_L213 N n t0 p1 i2 k61 I a4 a5 a6 a7))
set_option maxRecDepth 100000 in
set_option maxHeartbeats 4000000 in
theorem w_X7_worth_L172 {l : Launch} {G : cx_T} {p : Program} {e : Env} {s : State} {m : MethodId} {args : Array Value} {below : List Frame} {meth : Method} {c : Code} {N n : Nat} {J : mm_T} {t0 : Int32} {p1 : Int32} {i2 : Nat} (X : cx_ok G p s m args meth c cX7_worth 9 RX7 (some .int)) (hn : 144 ≤ n) (ht0 : 3 * t0.toNatClampNeg + 144 ≤ n) (hi2 : i2 < 9) {k61 : mm_T → Int32 → Int32 → Int32 → Option (mm_T × Int32)} {z : mm_T × Int32} (K61 : ∀ {I : mm_T} {a4 : Int32} {a5 : Int32} {a6 : Int32} {H : Heap} {locs : List Loc} {ls : Array Slot}, k61 I a4 a5 a6 = some z → st_ok G n I J s H locs → lv_has ls 9 [(0, .ref (cx_b G + ly_loc 7 t0.toNatClampNeg)), (2, .ref (cx_b G + ly_loc 10 i2)), (4, .int a4), (5, .int a5), (6, .int a6)] → W p l e ({ frames := 1, cells := 0, slots := 0, locals := 22 }) s m args below meth c H locs 0 0 (MQ below (ct_qi G n z.1 J z.2) args s 0 0 (cx_A G)) (F0 m 61 ls [])) {I : mm_T} {a4 : Int32} {a5 : Int32} {a6 : Int32} {a7 : Int32} {H : Heap} {locs : List Loc} {ls : Array Slot} (h : f_X7_worth_L172 N n t0 p1 i2 k61 I a4 a5 a6 a7 = some z) (S : st_ok G n I J s H locs) (hl : lv_has ls 9 [(0, .ref (cx_b G + ly_loc 7 t0.toNatClampNeg)), (2, .ref (cx_b G + ly_loc 10 i2)), (4, .int a4), (5, .int a5), (6, .int a6), (7, .int a7)]) : W p l e ({ frames := 1, cells := 0, slots := 0, locals := 22 }) s m args below meth c H locs 0 0 (MQ below (ct_qi G n z.1 J z.2) args s 0 0 (cx_A G)) (F0 m 172 ls []) := by
  unfold f_X7_worth_L172 at h
  refine lv_iload X.1 X.2.1 dX7_worth_172 (lv_at hl 3 rfl) ?_
  refine lv_if_le (tgt := 213) X.1 X.2.1 dX7_worth_174 (by decide) (fun c_23 => ?_) (fun c_23 => ?_)
  · have h := pz_t c_23 h
    exact w_X7_worth_L213 X hn ht0 hi2 K61 h S (lv_sub hl [0, 1, 2, 3, 4, 5] rfl)
  have h := pz_f c_23 h
  refine lv_iload X.1 X.2.1 dX7_worth_177 (lv_at hl 5 rfl) ?_
  refine lv_bipush (v := -112) X.1 X.2.1 dX7_worth_179 (by decide) ?_
  refine lv_icmp_ne (tgt := 213) X.1 X.2.1 dX7_worth_181 (by decide) (fun c_24 => ?_) (fun c_24 => ?_)
  · have h := pz_f c_24 h
    exact w_X7_worth_L213 X hn ht0 hi2 K61 h S (lv_sub hl [0, 1, 2, 3, 4, 5] rfl)
  have h := pz_t c_24 h
  refine lv_aload_n X.1 X.2.1 dX7_worth_184 rfl (lv_at hl 0 rfl) ?_
  refine gf_X7_9 X S ht0 dX7_worth_185 ?_
  refine lv_iload X.1 X.2.1 dX7_worth_188 (lv_at hl 3 rfl) ?_
  refine lv_iconst (v := 1) X.1 X.2.1 dX7_worth_190 (by decide) ?_
  refine lv_isub X.1 X.2.1 dX7_worth_191 ?_
  refine lv_aload_n X.1 X.2.1 dX7_worth_192 rfl (lv_at hl 0 rfl) ?_
  refine gf_X7_9 X S ht0 dX7_worth_193 ?_
  refine lv_iload X.1 X.2.1 dX7_worth_196 (lv_at hl 3 rfl) ?_
  refine lv_iconst (v := 1) X.1 X.2.1 dX7_worth_198 (by decide) ?_
  refine lv_isub X.1 X.2.1 dX7_worth_199 ?_
  obtain ⟨g_25, h⟩ := pz_gd_e h
  refine al_29 X S ht0 g_25 dX7_worth_200 ?_
  refine lv_if_ne (tgt := 208) X.1 X.2.1 dX7_worth_201 (by decide) (fun c_26 => ?_) (fun c_26 => ?_)
  · have h := pz_f c_26 h
    refine lv_iconst (v := 0) X.1 X.2.1 dX7_worth_208 (by decide) ?_
    exact w_X7_worth_L209 X hn ht0 hi2 K61 h S (lv_sub hl [0, 1, 2, 3, 4] rfl)
  have h := pz_t c_26 h
  refine lv_iconst (v := 1) X.1 X.2.1 dX7_worth_204 (by decide) ?_
  refine lv_goto (tgt := 209) X.1 X.2.1 dX7_worth_205 (by decide) ?_
  exact w_X7_worth_L209 X hn ht0 hi2 K61 h S (lv_sub hl [0, 1, 2, 3, 4] rfl)
def f_X7_worth_L138 (N n : Nat) (t0 : Int32) (p1 : Int32) (i2 : Nat) (k61 : mm_T → Int32 → Int32 → Int32 → Option (mm_T × Int32)) (I : mm_T) (a4 : Int32) (a5 : Int32) (a6 : Int32) (a7 : Int32) : Option (mm_T × Int32) := if a5 ≤ 0 then (f_X7_worth_L172 N n t0 p1 i2 k61 I a4 a5 a6 a7) else (if a7 = (-4 : Int32) then (pz_gd (ix_in (a5 - (1 : Int32)) 31) <| pz_gd (ix_in (a5 - (1 : Int32)) 31) <| pz_lt (mm_up I 29 t0.toNatClampNeg (a5 - (1 : Int32)).toNatClampNeg (-(I 29 t0.toNatClampNeg (a5 - (1 : Int32)).toNatClampNeg))) fun I_19 => f_X7_worth_L253 N n t0 p1 i2 k61 I_19 a4 a5 a6) else (f_X7_worth_L172 N n t0 p1 i2 k61 I a4 a5 a6 a7))
set_option maxRecDepth 100000 in
set_option maxHeartbeats 4000000 in
theorem w_X7_worth_L138 {l : Launch} {G : cx_T} {p : Program} {e : Env} {s : State} {m : MethodId} {args : Array Value} {below : List Frame} {meth : Method} {c : Code} {N n : Nat} {J : mm_T} {t0 : Int32} {p1 : Int32} {i2 : Nat} (X : cx_ok G p s m args meth c cX7_worth 9 RX7 (some .int)) (hn : 144 ≤ n) (ht0 : 3 * t0.toNatClampNeg + 144 ≤ n) (hi2 : i2 < 9) {k61 : mm_T → Int32 → Int32 → Int32 → Option (mm_T × Int32)} {z : mm_T × Int32} (K61 : ∀ {I : mm_T} {a4 : Int32} {a5 : Int32} {a6 : Int32} {H : Heap} {locs : List Loc} {ls : Array Slot}, k61 I a4 a5 a6 = some z → st_ok G n I J s H locs → lv_has ls 9 [(0, .ref (cx_b G + ly_loc 7 t0.toNatClampNeg)), (2, .ref (cx_b G + ly_loc 10 i2)), (4, .int a4), (5, .int a5), (6, .int a6)] → W p l e ({ frames := 1, cells := 0, slots := 0, locals := 22 }) s m args below meth c H locs 0 0 (MQ below (ct_qi G n z.1 J z.2) args s 0 0 (cx_A G)) (F0 m 61 ls [])) {I : mm_T} {a4 : Int32} {a5 : Int32} {a6 : Int32} {a7 : Int32} {H : Heap} {locs : List Loc} {ls : Array Slot} (h : f_X7_worth_L138 N n t0 p1 i2 k61 I a4 a5 a6 a7 = some z) (S : st_ok G n I J s H locs) (hl : lv_has ls 9 [(0, .ref (cx_b G + ly_loc 7 t0.toNatClampNeg)), (2, .ref (cx_b G + ly_loc 10 i2)), (4, .int a4), (5, .int a5), (6, .int a6), (7, .int a7)]) : W p l e ({ frames := 1, cells := 0, slots := 0, locals := 22 }) s m args below meth c H locs 0 0 (MQ below (ct_qi G n z.1 J z.2) args s 0 0 (cx_A G)) (F0 m 138 ls []) := by
  unfold f_X7_worth_L138 at h
  refine lv_iload X.1 X.2.1 dX7_worth_138 (lv_at hl 3 rfl) ?_
  refine lv_if_le (tgt := 172) X.1 X.2.1 dX7_worth_140 (by decide) (fun c_15 => ?_) (fun c_15 => ?_)
  · have h := pz_t c_15 h
    exact w_X7_worth_L172 X hn ht0 hi2 K61 h S (lv_sub hl [0, 1, 2, 3, 4, 5] rfl)
  have h := pz_f c_15 h
  refine lv_iload X.1 X.2.1 dX7_worth_143 (lv_at hl 5 rfl) ?_
  refine lv_bipush (v := -4) X.1 X.2.1 dX7_worth_145 (by decide) ?_
  refine lv_icmp_ne (tgt := 172) X.1 X.2.1 dX7_worth_147 (by decide) (fun c_16 => ?_) (fun c_16 => ?_)
  · have h := pz_f c_16 h
    exact w_X7_worth_L172 X hn ht0 hi2 K61 h S (lv_sub hl [0, 1, 2, 3, 4, 5] rfl)
  have h := pz_t c_16 h
  refine lv_aload_n X.1 X.2.1 dX7_worth_150 rfl (lv_at hl 0 rfl) ?_
  refine gf_X7_9 X S ht0 dX7_worth_151 ?_
  refine lv_iload X.1 X.2.1 dX7_worth_154 (lv_at hl 3 rfl) ?_
  refine lv_iconst (v := 1) X.1 X.2.1 dX7_worth_156 (by decide) ?_
  refine lv_isub X.1 X.2.1 dX7_worth_157 ?_
  refine lv_aload_n X.1 X.2.1 dX7_worth_158 rfl (lv_at hl 0 rfl) ?_
  refine gf_X7_9 X S ht0 dX7_worth_159 ?_
  refine lv_iload X.1 X.2.1 dX7_worth_162 (lv_at hl 3 rfl) ?_
  refine lv_iconst (v := 1) X.1 X.2.1 dX7_worth_164 (by decide) ?_
  refine lv_isub X.1 X.2.1 dX7_worth_165 ?_
  obtain ⟨g_17, h⟩ := pz_gd_e h
  refine al_29 X S ht0 g_17 dX7_worth_166 ?_
  refine lv_ineg X.1 X.2.1 dX7_worth_167 ?_
  obtain ⟨g_18, h⟩ := pz_gd_e h
  refine as_29 X S ht0 g_18 dX7_worth_168 (fun I_19 H locs eI_19 S => ?_)
  have h := pz_lt_e h eI_19
  refine lv_goto (tgt := 253) X.1 X.2.1 dX7_worth_169 (by decide) ?_
  exact w_X7_worth_L253 X hn ht0 hi2 K61 h S (lv_sub hl [0, 1, 2, 3, 4] rfl)
def f_X7_worth_L61 (N n : Nat) (t0 : Int32) (p1 : Int32) (i2 : Nat) : Nat → mm_T → Int32 → Int32 → Int32 → Option (mm_T × Int32)
  | 0, _, _, _, _ => none
  | cnt + 1, I, a4, a5, a6 => if a4 ≤ a6 then (some (I, (I 29 t0.toNatClampNeg (0 : Int32).toNatClampNeg))) else (pz_gd (ix_in a6 ((I 28 t0.toNatClampNeg 1000).toNatClampNeg)) <| pz_lt (I 28 t0.toNatClampNeg a6.toNatClampNeg) fun x_7 => pz_lt ((-x_7) - (101 : Int32)) fun x_8 => if 0 ≤ x_7 then (f_X7_worth_L102 N n t0 p1 i2 (f_X7_worth_L61 N n t0 p1 i2 cnt) I a4 a5 a6 x_7 x_8) else (if x_8 < 0 then (f_X7_worth_L138 N n t0 p1 i2 (f_X7_worth_L61 N n t0 p1 i2 cnt) I a4 a5 a6 x_7) else (if (Int32.ofNat 6) ≤ x_8 then (f_X7_worth_L138 N n t0 p1 i2 (f_X7_worth_L61 N n t0 p1 i2 cnt) I a4 a5 a6 x_7) else (f_X7_worth_L102 N n t0 p1 i2 (f_X7_worth_L61 N n t0 p1 i2 cnt) I a4 a5 a6 x_7 x_8))))
set_option maxRecDepth 100000 in
set_option maxHeartbeats 4000000 in
theorem w_X7_worth_L61 {l : Launch} {G : cx_T} {p : Program} {e : Env} {s : State} {m : MethodId} {args : Array Value} {below : List Frame} {meth : Method} {c : Code} {N n : Nat} {J : mm_T} {t0 : Int32} {p1 : Int32} {i2 : Nat} (X : cx_ok G p s m args meth c cX7_worth 9 RX7 (some .int)) (hn : 144 ≤ n) (ht0 : 3 * t0.toNatClampNeg + 144 ≤ n) (hi2 : i2 < 9) {z : mm_T × Int32} : ∀ (cnt : Nat) {I : mm_T} {a4 : Int32} {a5 : Int32} {a6 : Int32} {H : Heap} {locs : List Loc} {ls : Array Slot} , f_X7_worth_L61 N n t0 p1 i2 cnt I a4 a5 a6 = some z → st_ok G n I J s H locs → lv_has ls 9 [(0, .ref (cx_b G + ly_loc 7 t0.toNatClampNeg)), (2, .ref (cx_b G + ly_loc 10 i2)), (4, .int a4), (5, .int a5), (6, .int a6)] → W p l e ({ frames := 1, cells := 0, slots := 0, locals := 22 }) s m args below meth c H locs 0 0 (MQ below (ct_qi G n z.1 J z.2) args s 0 0 (cx_A G)) (F0 m 61 ls []) := by
  intro cnt
  induction cnt with
  | zero =>
    intro I a4 a5 a6 H locs ls h
    rw [f_X7_worth_L61] at h
    cases h
  | succ cnt ih =>
    intro I a4 a5 a6 H locs ls h S hl
    rw [f_X7_worth_L61] at h
    refine lv_iload X.1 X.2.1 dX7_worth_61 (lv_at hl 4 rfl) ?_
    refine lv_iload X.1 X.2.1 dX7_worth_63 (lv_at hl 2 rfl) ?_
    refine lv_icmp_ge (tgt := 259) X.1 X.2.1 dX7_worth_65 (by decide) (fun c_5 => ?_) (fun c_5 => ?_)
    · have h := pz_t c_5 h
      refine lv_aload_n X.1 X.2.1 dX7_worth_259 rfl (lv_at hl 0 rfl) ?_
      refine gf_X7_9 X S ht0 dX7_worth_260 ?_
      refine lv_iconst (v := 0) X.1 X.2.1 dX7_worth_263 (by decide) ?_
      refine al_29 X S ht0 (by decide) dX7_worth_264 ?_
      cases h
      exact r_iret X S dX7_worth_265
    have h := pz_f c_5 h
    refine lv_aload_n X.1 X.2.1 dX7_worth_68 rfl (lv_at hl 0 rfl) ?_
    refine gf_X7_13 X S ht0 dX7_worth_69 ?_
    refine lv_iload X.1 X.2.1 dX7_worth_72 (lv_at hl 4 rfl) ?_
    obtain ⟨g_6, h⟩ := pz_gd_e h
    refine al_28 X S ht0 g_6 dX7_worth_74 ?_
    refine lv_topi (fun x_7 ex_7 => ?_)
    have h := pz_lt_e h ex_7
    refine lv_istore (lv' := [(7, .int x_7), (0, .ref (cx_b G + ly_loc 7 t0.toNatClampNeg)), (2, .ref (cx_b G + ly_loc 10 i2)), (4, .int a4), (5, .int a5), (6, .int a6)]) X.1 X.2.1 dX7_worth_75 hl (by decide) rfl (fun ls hl => ?_)
    refine lv_iload X.1 X.2.1 dX7_worth_77 (lv_at hl 0 rfl) ?_
    refine lv_ineg X.1 X.2.1 dX7_worth_79 ?_
    refine lv_bipush (v := 101) X.1 X.2.1 dX7_worth_80 (by decide) ?_
    refine lv_isub X.1 X.2.1 dX7_worth_82 ?_
    refine lv_topi (fun x_8 ex_8 => ?_)
    have h := pz_lt_e h ex_8
    refine lv_istore (lv' := [(8, .int x_8), (7, .int x_7), (0, .ref (cx_b G + ly_loc 7 t0.toNatClampNeg)), (2, .ref (cx_b G + ly_loc 10 i2)), (4, .int a4), (5, .int a5), (6, .int a6)]) X.1 X.2.1 dX7_worth_83 hl (by decide) rfl (fun ls hl => ?_)
    refine lv_iload X.1 X.2.1 dX7_worth_85 (lv_at hl 1 rfl) ?_
    refine lv_if_ge (tgt := 102) X.1 X.2.1 dX7_worth_87 (by decide) (fun c_9 => ?_) (fun c_9 => ?_)
    · have h := pz_t c_9 h
      exact w_X7_worth_L102 X hn ht0 hi2 ih h S (lv_sub hl [2, 3, 4, 5, 6, 1, 0] rfl)
    have h := pz_f c_9 h
    refine lv_iload X.1 X.2.1 dX7_worth_90 (lv_at hl 0 rfl) ?_
    refine lv_if_lt (tgt := 138) X.1 X.2.1 dX7_worth_92 (by decide) (fun c_10 => ?_) (fun c_10 => ?_)
    · have h := pz_t c_10 h
      exact w_X7_worth_L138 X hn ht0 hi2 ih h S (lv_sub hl [2, 3, 4, 5, 6, 1] rfl)
    have h := pz_f c_10 h
    refine lv_iload X.1 X.2.1 dX7_worth_95 (lv_at hl 0 rfl) ?_
    refine lv_aload_n X.1 X.2.1 dX7_worth_97 rfl (lv_at hl 3 rfl) ?_
    refine ln_10 X S hi2 dX7_worth_98 ?_
    refine lv_icmp_ge (tgt := 138) X.1 X.2.1 dX7_worth_99 (by decide) (fun c_11 => ?_) (fun c_11 => ?_)
    · have h := pz_t c_11 h
      exact w_X7_worth_L138 X hn ht0 hi2 ih h S (lv_sub hl [2, 3, 4, 5, 6, 1] rfl)
    have h := pz_f c_11 h
    exact w_X7_worth_L102 X hn ht0 hi2 ih h S (lv_sub hl [2, 3, 4, 5, 6, 1, 0] rfl)
def f_X7_worth_L53 (N n : Nat) (t0 : Int32) (p1 : Int32) (i2 : Nat) (I : mm_T) (a3 : Int32) (s0 : Int32) : Option (mm_T × Int32) := f_X7_worth_L61 N n t0 p1 i2 N I s0 (0 : Int32) a3
set_option maxRecDepth 100000 in
set_option maxHeartbeats 4000000 in
theorem w_X7_worth_L53 {l : Launch} {G : cx_T} {p : Program} {e : Env} {s : State} {m : MethodId} {args : Array Value} {below : List Frame} {meth : Method} {c : Code} {N n : Nat} {J : mm_T} {t0 : Int32} {p1 : Int32} {i2 : Nat} (X : cx_ok G p s m args meth c cX7_worth 9 RX7 (some .int)) (hn : 144 ≤ n) (ht0 : 3 * t0.toNatClampNeg + 144 ≤ n) (hi2 : i2 < 9) {z : mm_T × Int32} {I : mm_T} {a3 : Int32} {s0 : Int32} {H : Heap} {locs : List Loc} {ls : Array Slot} (h : f_X7_worth_L53 N n t0 p1 i2 I a3 s0 = some z) (S : st_ok G n I J s H locs) (hl : lv_has ls 9 [(0, .ref (cx_b G + ly_loc 7 t0.toNatClampNeg)), (2, .ref (cx_b G + ly_loc 10 i2)), (3, .int a3)]) : W p l e ({ frames := 1, cells := 0, slots := 0, locals := 22 }) s m args below meth c H locs 0 0 (MQ below (ct_qi G n z.1 J z.2) args s 0 0 (cx_A G)) (F0 m 53 ls [.int s0]) := by
  unfold f_X7_worth_L53 at h
  refine lv_istore (lv' := [(4, .int s0), (0, .ref (cx_b G + ly_loc 7 t0.toNatClampNeg)), (2, .ref (cx_b G + ly_loc 10 i2)), (3, .int a3)]) X.1 X.2.1 dX7_worth_53 hl (by decide) rfl (fun ls hl => ?_)
  refine lv_iconst (v := 0) X.1 X.2.1 dX7_worth_55 (by decide) ?_
  refine lv_istore (lv' := [(5, .int (0 : Int32)), (4, .int s0), (0, .ref (cx_b G + ly_loc 7 t0.toNatClampNeg)), (2, .ref (cx_b G + ly_loc 10 i2)), (3, .int a3)]) X.1 X.2.1 dX7_worth_56 hl (by decide) rfl (fun ls hl => ?_)
  refine lv_iload_n X.1 X.2.1 dX7_worth_58 rfl (lv_at hl 4 rfl) ?_
  refine lv_istore (lv' := [(6, .int a3), (5, .int (0 : Int32)), (4, .int s0), (0, .ref (cx_b G + ly_loc 7 t0.toNatClampNeg)), (2, .ref (cx_b G + ly_loc 10 i2)), (3, .int a3)]) X.1 X.2.1 dX7_worth_59 hl (by decide) rfl (fun ls hl => ?_)
  exact w_X7_worth_L61 X hn ht0 hi2 N h S (lv_sub hl [3, 4, 2, 1, 0] rfl)
def f_X7_worth_L24 (N n : Nat) (t0 : Int32) (p1 : Int32) (i2 : Nat) (I : mm_T) (a1 : Int32) (s0 : Int32) : Option (mm_T × Int32) := if a1 = 0 then (f_X7_worth_L53 N n t0 p1 i2 I s0 (I 7 t0.toNatClampNeg 1)) else (if a1 = (1 : Int32) then (f_X7_worth_L53 N n t0 p1 i2 I s0 (I 7 t0.toNatClampNeg 2)) else (f_X7_worth_L53 N n t0 p1 i2 I s0 (Int32.ofNat ((I 28 t0.toNatClampNeg 1000).toNatClampNeg))))
set_option maxRecDepth 100000 in
set_option maxHeartbeats 4000000 in
theorem w_X7_worth_L24 {l : Launch} {G : cx_T} {p : Program} {e : Env} {s : State} {m : MethodId} {args : Array Value} {below : List Frame} {meth : Method} {c : Code} {N n : Nat} {J : mm_T} {t0 : Int32} {p1 : Int32} {i2 : Nat} (X : cx_ok G p s m args meth c cX7_worth 9 RX7 (some .int)) (hn : 144 ≤ n) (ht0 : 3 * t0.toNatClampNeg + 144 ≤ n) (hi2 : i2 < 9) {z : mm_T × Int32} {I : mm_T} {a1 : Int32} {s0 : Int32} {H : Heap} {locs : List Loc} {ls : Array Slot} (h : f_X7_worth_L24 N n t0 p1 i2 I a1 s0 = some z) (S : st_ok G n I J s H locs) (hl : lv_has ls 9 [(0, .ref (cx_b G + ly_loc 7 t0.toNatClampNeg)), (1, .int a1), (2, .ref (cx_b G + ly_loc 10 i2))]) : W p l e ({ frames := 1, cells := 0, slots := 0, locals := 22 }) s m args below meth c H locs 0 0 (MQ below (ct_qi G n z.1 J z.2) args s 0 0 (cx_A G)) (F0 m 24 ls [.int s0]) := by
  unfold f_X7_worth_L24 at h
  refine lv_istore_n (lv' := [(3, .int s0), (0, .ref (cx_b G + ly_loc 7 t0.toNatClampNeg)), (1, .int a1), (2, .ref (cx_b G + ly_loc 10 i2))]) X.1 X.2.1 dX7_worth_24 rfl hl (by decide) rfl (fun ls hl => ?_)
  refine lv_iload_n X.1 X.2.1 dX7_worth_25 rfl (lv_at hl 2 rfl) ?_
  refine lv_if_ne (tgt := 36) X.1 X.2.1 dX7_worth_26 (by decide) (fun c_3 => ?_) (fun c_3 => ?_)
  · have h := pz_f c_3 h
    refine lv_iload_n X.1 X.2.1 dX7_worth_36 rfl (lv_at hl 2 rfl) ?_
    refine lv_iconst (v := 1) X.1 X.2.1 dX7_worth_37 (by decide) ?_
    refine lv_icmp_ne (tgt := 48) X.1 X.2.1 dX7_worth_38 (by decide) (fun c_4 => ?_) (fun c_4 => ?_)
    · have h := pz_f c_4 h
      refine lv_aload_n X.1 X.2.1 dX7_worth_48 rfl (lv_at hl 1 rfl) ?_
      refine gf_X7_13 X S ht0 dX7_worth_49 ?_
      refine ln_28 X S ht0 dX7_worth_52 ?_
      exact w_X7_worth_L53 X hn ht0 hi2 h S (lv_sub hl [1, 3, 0] rfl)
    have h := pz_t c_4 h
    refine lv_aload_n X.1 X.2.1 dX7_worth_41 rfl (lv_at hl 1 rfl) ?_
    refine gf_X7_20 X S ht0 dX7_worth_42 ?_
    refine lv_goto (tgt := 53) X.1 X.2.1 dX7_worth_45 (by decide) ?_
    exact w_X7_worth_L53 X hn ht0 hi2 h S (lv_sub hl [1, 3, 0] rfl)
  have h := pz_t c_3 h
  refine lv_aload_n X.1 X.2.1 dX7_worth_29 rfl (lv_at hl 1 rfl) ?_
  refine gf_X7_16 X S ht0 dX7_worth_30 ?_
  refine lv_goto (tgt := 53) X.1 X.2.1 dX7_worth_33 (by decide) ?_
  exact w_X7_worth_L53 X hn ht0 hi2 h S (lv_sub hl [1, 3, 0] rfl)
def f_X7_worth (N n : Nat) (I : mm_T) (t0 : Int32) (p1 : Int32) (i2 : Nat) : Option (mm_T × Int32) := if p1 = 0 then (f_X7_worth_L24 N n t0 p1 i2 I p1 (0 : Int32)) else (if p1 = (1 : Int32) then (f_X7_worth_L24 N n t0 p1 i2 I p1 (I 7 t0.toNatClampNeg 1)) else (f_X7_worth_L24 N n t0 p1 i2 I p1 (I 7 t0.toNatClampNeg 2)))
set_option maxRecDepth 100000 in
set_option maxHeartbeats 4000000 in
theorem c_X7_worth {l : Launch} {G : cx_T} {N n : Nat} {I J : mm_T} {t0 : Int32} {p1 : Int32} {i2 : Nat} (hn : 144 ≤ n) (ht0 : 3 * t0.toNatClampNeg + 144 ≤ n) (hi2 : i2 < 9) {z : mm_T × Int32} (h : f_X7_worth N n I t0 p1 i2 = some z) : ct_m l G n yX7_worth cX7_worth 9 (some .int) ({ frames := 1, cells := 0, slots := 0, locals := 22 }) [.ref (cx_b G + ly_loc 7 t0.toNatClampNeg), .int p1, .ref (cx_b G + ly_loc 10 i2)] I J (ct_qi G n z.1 J z.2) := by
  refine ct_en (by decide) (Nat.le_of_ble_eq_true rfl) ?_
  intro p e s m args below meth c ls X S hl
  have X : cx_ok G p s m args meth c cX7_worth 9 RX7 (some .int) := X
  have hl : lv_has ls 9 [(0, .ref (cx_b G + ly_loc 7 t0.toNatClampNeg)), (1, .int p1), (2, .ref (cx_b G + ly_loc 10 i2))] := hl
  unfold f_X7_worth at h
  refine lv_iload_n X.1 X.2.1 dX7_worth_0 rfl (lv_at hl 1 rfl) ?_
  refine lv_if_ne (tgt := 8) X.1 X.2.1 dX7_worth_1 (by decide) (fun c_1 => ?_) (fun c_1 => ?_)
  · have h := pz_f c_1 h
    refine lv_iload_n X.1 X.2.1 dX7_worth_8 rfl (lv_at hl 1 rfl) ?_
    refine lv_iconst (v := 1) X.1 X.2.1 dX7_worth_9 (by decide) ?_
    refine lv_icmp_ne (tgt := 20) X.1 X.2.1 dX7_worth_10 (by decide) (fun c_2 => ?_) (fun c_2 => ?_)
    · have h := pz_f c_2 h
      refine lv_aload_n X.1 X.2.1 dX7_worth_20 rfl (lv_at hl 0 rfl) ?_
      refine gf_X7_20 X S ht0 dX7_worth_21 ?_
      exact w_X7_worth_L24 X hn ht0 hi2 h S (lv_sub hl [0, 1, 2] rfl)
    have h := pz_t c_2 h
    refine lv_aload_n X.1 X.2.1 dX7_worth_13 rfl (lv_at hl 0 rfl) ?_
    refine gf_X7_16 X S ht0 dX7_worth_14 ?_
    refine lv_goto (tgt := 24) X.1 X.2.1 dX7_worth_17 (by decide) ?_
    exact w_X7_worth_L24 X hn ht0 hi2 h S (lv_sub hl [0, 1, 2] rfl)
  have h := pz_t c_1 h
  refine lv_iconst (v := 0) X.1 X.2.1 dX7_worth_4 (by decide) ?_
  refine lv_goto (tgt := 24) X.1 X.2.1 dX7_worth_5 (by decide) ?_
  exact w_X7_worth_L24 X hn ht0 hi2 h S (lv_sub hl [0, 1, 2] rfl)
