def f_J6_bitCount_0f7a4 (N : Nat) (p1 : Int32) : Option (Int32) := pz_lt (p1 - (((p1.toUInt32 >>> ((1 : Int32).toUInt32 &&& Int32.toUInt32 31)).toInt32) &&& (1431655765 : Int32))) fun x_1 => pz_lt ((x_1 &&& (858993459 : Int32)) + (((x_1.toUInt32 >>> ((2 : Int32).toUInt32 &&& Int32.toUInt32 31)).toInt32) &&& (858993459 : Int32))) fun x_2 => pz_lt ((x_2 + ((x_2.toUInt32 >>> ((4 : Int32).toUInt32 &&& Int32.toUInt32 31)).toInt32)) &&& (252645135 : Int32)) fun x_3 => pz_lt (x_3 + ((x_3.toUInt32 >>> ((8 : Int32).toUInt32 &&& Int32.toUInt32 31)).toInt32)) fun x_4 => pz_lt (x_4 + ((x_4.toUInt32 >>> ((16 : Int32).toUInt32 &&& Int32.toUInt32 31)).toInt32)) fun x_5 => some (x_5 &&& (63 : Int32))
set_option maxRecDepth 100000 in
set_option maxHeartbeats 4000000 in
theorem c_J6_bitCount_0f7a4 {l : Launch} {G : cx_T} {N n : Nat} {I J : mm_T} {p1 : Int32} {z : Int32} (h : f_J6_bitCount_0f7a4 N p1 = some z) : ct_m l G n yJ6_bitCount_0f7a4 cJ6_bitCount_0f7a4 1 (some .int) ({ frames := 0, cells := 0, slots := 0, locals := 0 }) [.int p1] I J (ct_qi G n I J z) := by
  refine ct_en (by decide) (Nat.le_of_ble_eq_true rfl) ?_
  intro p e s m args below meth c ls X S hl
  have X : cx_ok G p s m args meth c cJ6_bitCount_0f7a4 1 RJ6 (some .int) := X
  have hl : lv_has ls 1 [(0, .int p1)] := hl
  have hn := S.2.2.2
  unfold f_J6_bitCount_0f7a4 at h
  refine lv_iload_n X.1 X.2.1 dJ6_bitCount_0f7a4_0 rfl (lv_at hl 0 rfl) ?_
  refine lv_iload_n X.1 X.2.1 dJ6_bitCount_0f7a4_1 rfl (lv_at hl 0 rfl) ?_
  refine lv_iconst (v := 1) X.1 X.2.1 dJ6_bitCount_0f7a4_2 (by decide) ?_
  refine lv_iushr X.1 X.2.1 dJ6_bitCount_0f7a4_3 rfl ?_
  refine lv_ldcw (v := 1431655765) X.1 X.2.1 X.2.2.2.1 (X.2.2.2.2.1 _ kw_J6_265) dJ6_bitCount_0f7a4_4 ?_
  refine lv_iand X.1 X.2.1 dJ6_bitCount_0f7a4_7 ?_
  refine lv_isub X.1 X.2.1 dJ6_bitCount_0f7a4_8 ?_
  refine lv_topi (fun x_1 ex_1 => ?_)
  have h := pz_lt_e h ex_1
  refine lv_istore_n (lv' := [(0, .int x_1)]) X.1 X.2.1 dJ6_bitCount_0f7a4_9 rfl hl (by decide) rfl (fun ls hl => ?_)
  refine lv_iload_n X.1 X.2.1 dJ6_bitCount_0f7a4_10 rfl (lv_at hl 0 rfl) ?_
  refine lv_ldcw (v := 858993459) X.1 X.2.1 X.2.2.2.1 (X.2.2.2.2.1 _ kw_J6_266) dJ6_bitCount_0f7a4_11 ?_
  refine lv_iand X.1 X.2.1 dJ6_bitCount_0f7a4_14 ?_
  refine lv_iload_n X.1 X.2.1 dJ6_bitCount_0f7a4_15 rfl (lv_at hl 0 rfl) ?_
  refine lv_iconst (v := 2) X.1 X.2.1 dJ6_bitCount_0f7a4_16 (by decide) ?_
  refine lv_iushr X.1 X.2.1 dJ6_bitCount_0f7a4_17 rfl ?_
  refine lv_ldcw (v := 858993459) X.1 X.2.1 X.2.2.2.1 (X.2.2.2.2.1 _ kw_J6_266) dJ6_bitCount_0f7a4_18 ?_
  refine lv_iand X.1 X.2.1 dJ6_bitCount_0f7a4_21 ?_
  refine lv_iadd X.1 X.2.1 dJ6_bitCount_0f7a4_22 ?_
  refine lv_topi (fun x_2 ex_2 => ?_)
  have h := pz_lt_e h ex_2
  refine lv_istore_n (lv' := [(0, .int x_2)]) X.1 X.2.1 dJ6_bitCount_0f7a4_23 rfl hl (by decide) rfl (fun ls hl => ?_)
  refine lv_iload_n X.1 X.2.1 dJ6_bitCount_0f7a4_24 rfl (lv_at hl 0 rfl) ?_
  refine lv_iload_n X.1 X.2.1 dJ6_bitCount_0f7a4_25 rfl (lv_at hl 0 rfl) ?_
  refine lv_iconst (v := 4) X.1 X.2.1 dJ6_bitCount_0f7a4_26 (by decide) ?_
  refine lv_iushr X.1 X.2.1 dJ6_bitCount_0f7a4_27 rfl ?_
  refine lv_iadd X.1 X.2.1 dJ6_bitCount_0f7a4_28 ?_
  refine lv_ldcw (v := 252645135) X.1 X.2.1 X.2.2.2.1 (X.2.2.2.2.1 _ kw_J6_267) dJ6_bitCount_0f7a4_29 ?_
  refine lv_iand X.1 X.2.1 dJ6_bitCount_0f7a4_32 ?_
  refine lv_topi (fun x_3 ex_3 => ?_)
  have h := pz_lt_e h ex_3
  refine lv_istore_n (lv' := [(0, .int x_3)]) X.1 X.2.1 dJ6_bitCount_0f7a4_33 rfl hl (by decide) rfl (fun ls hl => ?_)
  refine lv_iload_n X.1 X.2.1 dJ6_bitCount_0f7a4_34 rfl (lv_at hl 0 rfl) ?_
  refine lv_iload_n X.1 X.2.1 dJ6_bitCount_0f7a4_35 rfl (lv_at hl 0 rfl) ?_
  refine lv_bipush (v := 8) X.1 X.2.1 dJ6_bitCount_0f7a4_36 (by decide) ?_
  refine lv_iushr X.1 X.2.1 dJ6_bitCount_0f7a4_38 rfl ?_
  refine lv_iadd X.1 X.2.1 dJ6_bitCount_0f7a4_39 ?_
  refine lv_topi (fun x_4 ex_4 => ?_)
  have h := pz_lt_e h ex_4
  refine lv_istore_n (lv' := [(0, .int x_4)]) X.1 X.2.1 dJ6_bitCount_0f7a4_40 rfl hl (by decide) rfl (fun ls hl => ?_)
  refine lv_iload_n X.1 X.2.1 dJ6_bitCount_0f7a4_41 rfl (lv_at hl 0 rfl) ?_
  refine lv_iload_n X.1 X.2.1 dJ6_bitCount_0f7a4_42 rfl (lv_at hl 0 rfl) ?_
  refine lv_bipush (v := 16) X.1 X.2.1 dJ6_bitCount_0f7a4_43 (by decide) ?_
  refine lv_iushr X.1 X.2.1 dJ6_bitCount_0f7a4_45 rfl ?_
  refine lv_iadd X.1 X.2.1 dJ6_bitCount_0f7a4_46 ?_
  refine lv_topi (fun x_5 ex_5 => ?_)
  have h := pz_lt_e h ex_5
  refine lv_istore_n (lv' := [(0, .int x_5)]) X.1 X.2.1 dJ6_bitCount_0f7a4_47 rfl hl (by decide) rfl (fun ls hl => ?_)
  refine lv_iload_n X.1 X.2.1 dJ6_bitCount_0f7a4_48 rfl (lv_at hl 0 rfl) ?_
  refine lv_bipush (v := 63) X.1 X.2.1 dJ6_bitCount_0f7a4_49 (by decide) ?_
  refine lv_iand X.1 X.2.1 dJ6_bitCount_0f7a4_51 ?_
  cases h
  exact r_iret X S dJ6_bitCount_0f7a4_52
def f_J0_coder_7d493 (N : Nat) (k0 : Nat) : Option (Int32) := if (1 : Int32) = 0 then (some (1 : Int32)) else (some (0 : Int32))
set_option maxRecDepth 100000 in
set_option maxHeartbeats 4000000 in
theorem c_J0_coder_7d493 {l : Launch} {G : cx_T} {N n : Nat} {I J : mm_T} {k0 : Nat} (hk0 : k0 < 14) {z : Int32} (h : f_J0_coder_7d493 N k0 = some z) : ct_m l G n yJ0_coder_7d493 cJ0_coder_7d493 1 (some .byte) ({ frames := 0, cells := 0, slots := 0, locals := 0 }) [.ref (cx_K G k0)] I J (ct_qi G n I J z) := by
  refine ct_en (by decide) (Nat.le_of_ble_eq_true rfl) ?_
  intro p e s m args below meth c ls X S hl
  have X : cx_ok G p s m args meth c cJ0_coder_7d493 1 RJ0 (some .byte) := X
  have hl : lv_has ls 1 [(0, .ref (cx_K G k0))] := hl
  have hn := S.2.2.2
  unfold f_J0_coder_7d493 at h
  refine r_scomp X S lk_J0_38 dJ0_coder_7d493_0 ?_
  refine lv_if_eq (tgt := 13) X.1 X.2.1 dJ0_coder_7d493_3 (by decide) (fun c_1 => ?_) (fun c_1 => ?_)
  · have h := pz_t c_1 h
    refine lv_iconst (v := 1) X.1 X.2.1 dJ0_coder_7d493_13 (by decide) ?_
    cases h
    exact r_nret (v := 1) X S rfl dJ0_coder_7d493_14
  have h := pz_f c_1 h
  refine lv_aload_n X.1 X.2.1 dJ0_coder_7d493_6 rfl (lv_at hl 0 rfl) ?_
  refine r_scoder X S hk0 lk_J0_15 dJ0_coder_7d493_7 ?_
  refine lv_goto (tgt := 14) X.1 X.2.1 dJ0_coder_7d493_10 (by decide) ?_
  cases h
  exact r_nret (v := 0) X S rfl dJ0_coder_7d493_14
def f_J0_isLatin1_aae02 (N : Nat) (k0 : Nat) : Option (Int32) := if (1 : Int32) = 0 then (some (0 : Int32)) else (if (0 : Int32) = 0 then (some (1 : Int32)) else (some (0 : Int32)))
set_option maxRecDepth 100000 in
set_option maxHeartbeats 4000000 in
theorem c_J0_isLatin1_aae02 {l : Launch} {G : cx_T} {N n : Nat} {I J : mm_T} {k0 : Nat} (hk0 : k0 < 14) {z : Int32} (h : f_J0_isLatin1_aae02 N k0 = some z) : ct_m l G n yJ0_isLatin1_aae02 cJ0_isLatin1_aae02 1 (some .boolean) ({ frames := 0, cells := 0, slots := 0, locals := 0 }) [.ref (cx_K G k0)] I J (ct_qi G n I J z) := by
  refine ct_en (by decide) (Nat.le_of_ble_eq_true rfl) ?_
  intro p e s m args below meth c ls X S hl
  have X : cx_ok G p s m args meth c cJ0_isLatin1_aae02 1 RJ0 (some .boolean) := X
  have hl : lv_has ls 1 [(0, .ref (cx_K G k0))] := hl
  have hn := S.2.2.2
  unfold f_J0_isLatin1_aae02 at h
  refine r_scomp X S lk_J0_38 dJ0_isLatin1_aae02_0 ?_
  refine lv_if_eq (tgt := 17) X.1 X.2.1 dJ0_isLatin1_aae02_3 (by decide) (fun c_1 => ?_) (fun c_1 => ?_)
  · have h := pz_t c_1 h
    refine lv_iconst (v := 0) X.1 X.2.1 dJ0_isLatin1_aae02_17 (by decide) ?_
    cases h
    exact r_zret (v := 0) X S rfl dJ0_isLatin1_aae02_18
  have h := pz_f c_1 h
  refine lv_aload_n X.1 X.2.1 dJ0_isLatin1_aae02_6 rfl (lv_at hl 0 rfl) ?_
  refine r_scoder X S hk0 lk_J0_15 dJ0_isLatin1_aae02_7 ?_
  refine lv_if_ne (tgt := 17) X.1 X.2.1 dJ0_isLatin1_aae02_10 (by decide) (fun c_2 => ?_) (fun c_2 => ?_)
  · have h := pz_f c_2 h
    refine lv_iconst (v := 0) X.1 X.2.1 dJ0_isLatin1_aae02_17 (by decide) ?_
    cases h
    exact r_zret (v := 0) X S rfl dJ0_isLatin1_aae02_18
  have h := pz_t c_2 h
  refine lv_iconst (v := 1) X.1 X.2.1 dJ0_isLatin1_aae02_13 (by decide) ?_
  refine lv_goto (tgt := 18) X.1 X.2.1 dJ0_isLatin1_aae02_14 (by decide) ?_
  cases h
  exact r_zret (v := 1) X S rfl dJ0_isLatin1_aae02_18
def f_J3_checkIndex_8e157 (N : Nat) (p1 : Int32) (p2 : Int32) : Option (Int32) := if p1 < 0 then (none) else (if p1 < p2 then (some p1) else (none))
set_option maxRecDepth 100000 in
set_option maxHeartbeats 4000000 in
theorem c_J3_checkIndex_8e157 {l : Launch} {G : cx_T} {N n : Nat} {I J : mm_T} {p1 : Int32} {p2 : Int32} {v3 : Value} (hv3 : v3 = .null ∨ ∃ a, v3 = .ref a) {z : Int32} (h : f_J3_checkIndex_8e157 N p1 p2 = some z) : ct_m l G n yJ3_checkIndex_8e157 cJ3_checkIndex_8e157 3 (some .int) ({ frames := 1, cells := 0, slots := 0, locals := 60 }) [.int p1, .int p2, v3] I J (ct_qi G n I J z) := by
  refine ct_en (by decide) (by rcases hv3 with rfl | ⟨_, rfl⟩ <;> exact Nat.le_of_ble_eq_true rfl) ?_
  intro p e s m args below meth c ls X S hl
  have X : cx_ok G p s m args meth c cJ3_checkIndex_8e157 3 RJ3 (some .int) := X
  have hl : lv_has ls 3 [(0, .int p1), (1, .int p2), (2, v3)] := hl
  have hn := S.2.2.2
  unfold f_J3_checkIndex_8e157 at h
  refine lv_iload_n X.1 X.2.1 dJ3_checkIndex_8e157_0 rfl (lv_at hl 0 rfl) ?_
  refine lv_if_lt (tgt := 9) X.1 X.2.1 dJ3_checkIndex_8e157_1 (by decide) (fun c_1 => ?_) (fun c_1 => ?_)
  · have h := pz_t c_1 h
    cases h
  have h := pz_f c_1 h
  refine lv_iload_n X.1 X.2.1 dJ3_checkIndex_8e157_4 rfl (lv_at hl 0 rfl) ?_
  refine lv_iload_n X.1 X.2.1 dJ3_checkIndex_8e157_5 rfl (lv_at hl 1 rfl) ?_
  refine lv_icmp_lt (tgt := 16) X.1 X.2.1 dJ3_checkIndex_8e157_6 (by decide) (fun c_2 => ?_) (fun c_2 => ?_)
  · have h := pz_t c_2 h
    refine lv_iload_n X.1 X.2.1 dJ3_checkIndex_8e157_16 rfl (lv_at hl 0 rfl) ?_
    cases h
    exact r_iret X S dJ3_checkIndex_8e157_17
  have h := pz_f c_2 h
  cases h
def f_J0_checkIndex_df160 (N : Nat) (p1 : Int32) (p2 : Int32) : Option (Unit) := pz_bd (f_J3_checkIndex_8e157 N p1 p2) fun q_2 => some ()
set_option maxRecDepth 100000 in
set_option maxHeartbeats 4000000 in
theorem c_J0_checkIndex_df160 {l : Launch} {G : cx_T} {N n : Nat} {I J : mm_T} {p1 : Int32} {p2 : Int32} {z : Unit} (h : f_J0_checkIndex_df160 N p1 p2 = some z) : ct_m l G n yJ0_checkIndex_df160 cJ0_checkIndex_df160 2 none ({ frames := 2, cells := 0, slots := 0, locals := 82 }) [.int p1, .int p2] I J (ct_qv G n I J) := by
  refine ct_en (by decide) (Nat.le_of_ble_eq_true rfl) ?_
  intro p e s m args below meth c ls X S hl
  have X : cx_ok G p s m args meth c cJ0_checkIndex_df160 2 RJ0 none := X
  have hl : lv_has ls 2 [(0, .int p1), (1, .int p2)] := hl
  have hn := S.2.2.2
  unfold f_J0_checkIndex_df160 at h
  refine lv_iload_n X.1 X.2.1 dJ0_checkIndex_df160_0 rfl (lv_at hl 0 rfl) ?_
  refine lv_iload_n X.1 X.2.1 dJ0_checkIndex_df160_1 rfl (lv_at hl 1 rfl) ?_
  refine r_sfmt X S lk_J0_1053 dJ0_checkIndex_df160_2 (fun v_1 hv_1 => ?_)
  obtain ⟨q_2, eq_2, h⟩ := pz_bd_e h
  refine r_Si X S (c_J3_checkIndex_8e157 hv_1 eq_2) gd_J0_1059 ny_J3_checkIndex_8e157 ⟨rfl, rfl⟩ ⟨Nat.le_of_ble_eq_true rfl, Nat.le_of_ble_eq_true rfl⟩ rfl rfl hl.1 (Nat.le_of_ble_eq_true rfl) dJ0_checkIndex_df160_5 (fun H locs S => ?_)
  refine lv_pop X.1 X.2.1 dJ0_checkIndex_df160_8 rfl ?_
  cases h
  exact r_vret X S dJ0_checkIndex_df160_9
def f_J1_charAt_3b067 (N : Nat) (k1 : Nat) (p2 : Int32) : Option (Int32) := pz_bd (f_J0_checkIndex_df160 N p2 (Int32.ofNat (cx_len.getD k1 0))) fun q_1 => pz_gd (ix_in p2 (cx_len.getD k1 0)) <| pz_gd (pz_nc (((((cx_byt.getD k1 []).getD p2.toNatClampNeg 0) &&& (255 : Int32)).toUInt32 % 65536).toInt32)) <| some (((((cx_byt.getD k1 []).getD p2.toNatClampNeg 0) &&& (255 : Int32)).toUInt32 % 65536).toInt32)
set_option maxRecDepth 100000 in
set_option maxHeartbeats 4000000 in
theorem c_J1_charAt_3b067 {l : Launch} {G : cx_T} {N n : Nat} {I J : mm_T} {k1 : Nat} {p2 : Int32} (hk1 : k1 < 14) {z : Int32} (h : f_J1_charAt_3b067 N k1 p2 = some z) : ct_m l G n yJ1_charAt_3b067 cJ1_charAt_3b067 2 (some .char) ({ frames := 3, cells := 0, slots := 0, locals := 103 }) [.ref (cx_V G k1), .int p2] I J (ct_qi G n I J z) := by
  refine ct_en (by decide) (Nat.le_of_ble_eq_true rfl) ?_
  intro p e s m args below meth c ls X S hl
  have X : cx_ok G p s m args meth c cJ1_charAt_3b067 2 RJ1 (some .char) := X
  have hl : lv_has ls 2 [(0, .ref (cx_V G k1)), (1, .int p2)] := hl
  have hn := S.2.2.2
  unfold f_J1_charAt_3b067 at h
  refine lv_iload_n X.1 X.2.1 dJ1_charAt_3b067_0 rfl (lv_at hl 1 rfl) ?_
  refine lv_aload_n X.1 X.2.1 dJ1_charAt_3b067_1 rfl (lv_at hl 0 rfl) ?_
  refine r_slen X S hk1 dJ1_charAt_3b067_2 ?_
  obtain ⟨q_1, eq_1, h⟩ := pz_bd_e h
  refine r_Sv X S (c_J0_checkIndex_df160 eq_1) gd_J1_9 ny_J0_checkIndex_df160 ⟨rfl, rfl⟩ ⟨Nat.le_of_ble_eq_true rfl, Nat.le_of_ble_eq_true rfl⟩ rfl rfl hl.1 (Nat.le_of_ble_eq_true rfl) dJ1_charAt_3b067_3 (fun H locs S => ?_)
  refine lv_aload_n X.1 X.2.1 dJ1_charAt_3b067_6 rfl (lv_at hl 0 rfl) ?_
  refine lv_iload_n X.1 X.2.1 dJ1_charAt_3b067_7 rfl (lv_at hl 1 rfl) ?_
  obtain ⟨g_2, h⟩ := pz_gd_e h
  refine r_sbyte X S hk1 g_2 dJ1_charAt_3b067_8 ?_
  refine lv_sipush (v := 255) X.1 X.2.1 dJ1_charAt_3b067_9 (by decide) ?_
  refine lv_iand X.1 X.2.1 dJ1_charAt_3b067_12 ?_
  refine lv_i2c X.1 X.2.1 dJ1_charAt_3b067_13 rfl ?_
  obtain ⟨g_3, h⟩ := pz_gd_e h
  cases h
  exact r_nret X S (pz_ncn g_3) dJ1_charAt_3b067_14
def f_J0_charAt_5068e (N : Nat) (k0 : Nat) (p1 : Int32) : Option (Int32) := pz_bd (f_J0_isLatin1_aae02 N k0) fun q_1 => if q_1 = 0 then (none) else (pz_bd (f_J1_charAt_3b067 N k0 p1) fun q_3 => pz_gd (pz_nc q_3) <| some q_3)
set_option maxRecDepth 100000 in
set_option maxHeartbeats 4000000 in
theorem c_J0_charAt_5068e {l : Launch} {G : cx_T} {N n : Nat} {I J : mm_T} {k0 : Nat} {p1 : Int32} (hk0 : k0 < 14) {z : Int32} (h : f_J0_charAt_5068e N k0 p1 = some z) : ct_m l G n yJ0_charAt_5068e cJ0_charAt_5068e 2 (some .char) ({ frames := 4, cells := 0, slots := 0, locals := 124 }) [.ref (cx_K G k0), .int p1] I J (ct_qi G n I J z) := by
  refine ct_en (by decide) (Nat.le_of_ble_eq_true rfl) ?_
  intro p e s m args below meth c ls X S hl
  have X : cx_ok G p s m args meth c cJ0_charAt_5068e 2 RJ0 (some .char) := X
  have hl : lv_has ls 2 [(0, .ref (cx_K G k0)), (1, .int p1)] := hl
  have hn := S.2.2.2
  unfold f_J0_charAt_5068e at h
  refine lv_aload_n X.1 X.2.1 dJ0_charAt_5068e_0 rfl (lv_at hl 0 rfl) ?_
  obtain ⟨q_1, eq_1, h⟩ := pz_bd_e h
  refine r_Vi X S (c_J0_isLatin1_aae02 hk0 eq_1) gd_J0_492 ⟨rfl, ny_J0_isLatin1_aae02⟩ ⟨rfl, rfl⟩ ⟨Nat.le_of_ble_eq_true rfl, Nat.le_of_ble_eq_true rfl⟩ (r_srecv X S hk0) rfl rfl hl.1 (Nat.le_of_ble_eq_true rfl) dJ0_charAt_5068e_1 (fun H locs S => ?_)
  refine lv_if_eq (tgt := 16) X.1 X.2.1 dJ0_charAt_5068e_4 (by decide) (fun c_2 => ?_) (fun c_2 => ?_)
  · have h := pz_t c_2 h
    cases h
  have h := pz_f c_2 h
  refine lv_aload_n X.1 X.2.1 dJ0_charAt_5068e_7 rfl (lv_at hl 0 rfl) ?_
  refine r_svalue X S hk0 lk_J0_9 dJ0_charAt_5068e_8 ?_
  refine lv_iload_n X.1 X.2.1 dJ0_charAt_5068e_11 rfl (lv_at hl 1 rfl) ?_
  obtain ⟨q_3, eq_3, h⟩ := pz_bd_e h
  refine r_Si X S (c_J1_charAt_3b067 hk0 eq_3) gd_J0_495 ny_J1_charAt_3b067 ⟨rfl, rfl⟩ ⟨Nat.le_of_ble_eq_true rfl, Nat.le_of_ble_eq_true rfl⟩ rfl rfl hl.1 (Nat.le_of_ble_eq_true rfl) dJ0_charAt_5068e_12 (fun H locs S => ?_)
  obtain ⟨g_4, h⟩ := pz_gd_e h
  cases h
  exact r_nret X S (pz_ncn g_4) dJ0_charAt_5068e_15
def f_J0_length_8abf5 (N : Nat) (k0 : Nat) : Option (Int32) := pz_bd (f_J0_coder_7d493 N k0) fun q_1 => some ((Int32.ofNat (cx_len.getD k0 0)) >>> (q_1 &&& 31))
set_option maxRecDepth 100000 in
set_option maxHeartbeats 4000000 in
theorem c_J0_length_8abf5 {l : Launch} {G : cx_T} {N n : Nat} {I J : mm_T} {k0 : Nat} (hk0 : k0 < 14) {z : Int32} (h : f_J0_length_8abf5 N k0 = some z) : ct_m l G n yJ0_length_8abf5 cJ0_length_8abf5 1 (some .int) ({ frames := 1, cells := 0, slots := 0, locals := 20 }) [.ref (cx_K G k0)] I J (ct_qi G n I J z) := by
  refine ct_en (by decide) (Nat.le_of_ble_eq_true rfl) ?_
  intro p e s m args below meth c ls X S hl
  have X : cx_ok G p s m args meth c cJ0_length_8abf5 1 RJ0 (some .int) := X
  have hl : lv_has ls 1 [(0, .ref (cx_K G k0))] := hl
  have hn := S.2.2.2
  unfold f_J0_length_8abf5 at h
  refine lv_aload_n X.1 X.2.1 dJ0_length_8abf5_0 rfl (lv_at hl 0 rfl) ?_
  refine r_svalue X S hk0 lk_J0_9 dJ0_length_8abf5_1 ?_
  refine r_slen X S hk0 dJ0_length_8abf5_4 ?_
  refine lv_aload_n X.1 X.2.1 dJ0_length_8abf5_5 rfl (lv_at hl 0 rfl) ?_
  obtain ⟨q_1, eq_1, h⟩ := pz_bd_e h
  refine r_Vi X S (c_J0_coder_7d493 hk0 eq_1) gd_J0_335 ⟨rfl, ny_J0_coder_7d493⟩ ⟨rfl, rfl⟩ ⟨Nat.le_of_ble_eq_true rfl, Nat.le_of_ble_eq_true rfl⟩ (r_srecv X S hk0) rfl rfl hl.1 (Nat.le_of_ble_eq_true rfl) dJ0_length_8abf5_6 (fun H locs S => ?_)
  refine lv_ishr X.1 X.2.1 dJ0_length_8abf5_9 ?_
  cases h
  exact r_iret X S dJ0_length_8abf5_10
def f_J1_canEncode_9a6ad (N : Nat) (p1 : Int32) : Option (Int32) := if p1 < 0 then (some (0 : Int32)) else (if (255 : Int32) < p1 then (some (0 : Int32)) else (some (1 : Int32)))
set_option maxRecDepth 100000 in
set_option maxHeartbeats 4000000 in
theorem c_J1_canEncode_9a6ad {l : Launch} {G : cx_T} {N n : Nat} {I J : mm_T} {p1 : Int32} {z : Int32} (h : f_J1_canEncode_9a6ad N p1 = some z) : ct_m l G n yJ1_canEncode_9a6ad cJ1_canEncode_9a6ad 1 (some .boolean) ({ frames := 0, cells := 0, slots := 0, locals := 0 }) [.int p1] I J (ct_qi G n I J z) := by
  refine ct_en (by decide) (Nat.le_of_ble_eq_true rfl) ?_
  intro p e s m args below meth c ls X S hl
  have X : cx_ok G p s m args meth c cJ1_canEncode_9a6ad 1 RJ1 (some .boolean) := X
  have hl : lv_has ls 1 [(0, .int p1)] := hl
  have hn := S.2.2.2
  unfold f_J1_canEncode_9a6ad at h
  refine lv_iload_n X.1 X.2.1 dJ1_canEncode_9a6ad_0 rfl (lv_at hl 0 rfl) ?_
  refine lv_if_lt (tgt := 15) X.1 X.2.1 dJ1_canEncode_9a6ad_1 (by decide) (fun c_1 => ?_) (fun c_1 => ?_)
  · have h := pz_t c_1 h
    refine lv_iconst (v := 0) X.1 X.2.1 dJ1_canEncode_9a6ad_15 (by decide) ?_
    cases h
    exact r_zret (v := 0) X S rfl dJ1_canEncode_9a6ad_16
  have h := pz_f c_1 h
  refine lv_iload_n X.1 X.2.1 dJ1_canEncode_9a6ad_4 rfl (lv_at hl 0 rfl) ?_
  refine lv_sipush (v := 255) X.1 X.2.1 dJ1_canEncode_9a6ad_5 (by decide) ?_
  refine lv_icmp_gt (tgt := 15) X.1 X.2.1 dJ1_canEncode_9a6ad_8 (by decide) (fun c_2 => ?_) (fun c_2 => ?_)
  · have h := pz_t c_2 h
    refine lv_iconst (v := 0) X.1 X.2.1 dJ1_canEncode_9a6ad_15 (by decide) ?_
    cases h
    exact r_zret (v := 0) X S rfl dJ1_canEncode_9a6ad_16
  have h := pz_f c_2 h
  refine lv_iconst (v := 1) X.1 X.2.1 dJ1_canEncode_9a6ad_11 (by decide) ?_
  refine lv_goto (tgt := 16) X.1 X.2.1 dJ1_canEncode_9a6ad_12 (by decide) ?_
  cases h
  exact r_zret (v := 1) X S rfl dJ1_canEncode_9a6ad_16
def f_J1_indexOfChar_4cfef_L7 (N : Nat) (k1 : Nat) (p2 : Int32) (p3 : Int32) (p4 : Int32) : Nat → Int32 → Int32 → Int32 → Option (Int32)
  | 0, _, _, _ => none
  | cnt + 1, a3, a4, a5 => if a3 ≤ a5 then (some (-1 : Int32)) else (pz_gd (ix_in a5 (cx_len.getD k1 0)) <| if ((cx_byt.getD k1 []).getD a5.toNatClampNeg 0) = a4 then (some a5) else (pz_lt (a5 + (1 : Int32)) fun x_5 => f_J1_indexOfChar_4cfef_L7 N k1 p2 p3 p4 cnt a3 a4 x_5))
set_option maxRecDepth 100000 in
set_option maxHeartbeats 4000000 in
theorem w_J1_indexOfChar_4cfef_L7 {l : Launch} {G : cx_T} {p : Program} {e : Env} {s : State} {m : MethodId} {args : Array Value} {below : List Frame} {meth : Method} {c : Code} {N n : Nat} {I J : mm_T} {k1 : Nat} {p2 : Int32} {p3 : Int32} {p4 : Int32} (X : cx_ok G p s m args meth c cJ1_indexOfChar_4cfef 6 RJ1 (some .int)) (hn : 111 ≤ n) (hk1 : k1 < 14) {z : Int32} : ∀ (cnt : Nat) {a3 : Int32} {a4 : Int32} {a5 : Int32} {H : Heap} {locs : List Loc} {ls : Array Slot} , f_J1_indexOfChar_4cfef_L7 N k1 p2 p3 p4 cnt a3 a4 a5 = some z → st_ok G n I J s H locs → lv_has ls 6 [(0, .ref (cx_V G k1)), (3, .int a3), (4, .int a4), (5, .int a5)] → W p l e ({ frames := 0, cells := 0, slots := 0, locals := 0 }) s m args below meth c H locs 0 0 (MQ below (ct_qi G n I J z) args s 0 0 (cx_A G)) (F0 m 7 ls []) := by
  intro cnt
  induction cnt with
  | zero =>
    intro a3 a4 a5 H locs ls h
    rw [f_J1_indexOfChar_4cfef_L7] at h
    cases h
  | succ cnt ih =>
    intro a3 a4 a5 H locs ls h S hl
    rw [f_J1_indexOfChar_4cfef_L7] at h
    refine lv_iload X.1 X.2.1 dJ1_indexOfChar_4cfef_7 (lv_at hl 3 rfl) ?_
    refine lv_iload_n X.1 X.2.1 dJ1_indexOfChar_4cfef_9 rfl (lv_at hl 1 rfl) ?_
    refine lv_icmp_ge (tgt := 31) X.1 X.2.1 dJ1_indexOfChar_4cfef_10 (by decide) (fun c_2 => ?_) (fun c_2 => ?_)
    · have h := pz_t c_2 h
      refine lv_iconst (v := -1) X.1 X.2.1 dJ1_indexOfChar_4cfef_31 (by decide) ?_
      cases h
      exact r_iret X S dJ1_indexOfChar_4cfef_32
    have h := pz_f c_2 h
    refine lv_aload_n X.1 X.2.1 dJ1_indexOfChar_4cfef_13 rfl (lv_at hl 0 rfl) ?_
    refine lv_iload X.1 X.2.1 dJ1_indexOfChar_4cfef_14 (lv_at hl 3 rfl) ?_
    obtain ⟨g_3, h⟩ := pz_gd_e h
    refine r_sbyte X S hk1 g_3 dJ1_indexOfChar_4cfef_16 ?_
    refine lv_iload X.1 X.2.1 dJ1_indexOfChar_4cfef_17 (lv_at hl 2 rfl) ?_
    refine lv_icmp_ne (tgt := 25) X.1 X.2.1 dJ1_indexOfChar_4cfef_19 (by decide) (fun c_4 => ?_) (fun c_4 => ?_)
    · have h := pz_f c_4 h
      obtain ⟨x_5, ex_5⟩ : ∃ y : Int32, y = (a5 + (1 : Int32)) := ⟨_, rfl⟩
      have h := pz_lt_e h ex_5
      refine lv_iinc (v := x_5) (lv' := [(5, .int x_5), (0, .ref (cx_V G k1)), (3, .int a3), (4, .int a4)]) X.1 X.2.1 dJ1_indexOfChar_4cfef_25 hl (k := 3) rfl (by rw [ex_5]; rfl) (by decide) rfl (fun ls hl => ?_)
      refine lv_goto (tgt := 7) X.1 X.2.1 dJ1_indexOfChar_4cfef_28 (by decide) ?_
      exact ih h S (lv_sub hl [1, 2, 3, 0] rfl)
    have h := pz_t c_4 h
    refine lv_iload X.1 X.2.1 dJ1_indexOfChar_4cfef_22 (lv_at hl 3 rfl) ?_
    cases h
    exact r_iret X S dJ1_indexOfChar_4cfef_24
def f_J1_indexOfChar_4cfef (N : Nat) (k1 : Nat) (p2 : Int32) (p3 : Int32) (p4 : Int32) : Option (Int32) := pz_lt (p2.toInt8.toInt32) fun x_1 => f_J1_indexOfChar_4cfef_L7 N k1 p2 p3 p4 N p4 x_1 p3
set_option maxRecDepth 100000 in
set_option maxHeartbeats 4000000 in
theorem c_J1_indexOfChar_4cfef {l : Launch} {G : cx_T} {N n : Nat} {I J : mm_T} {k1 : Nat} {p2 : Int32} {p3 : Int32} {p4 : Int32} (hk1 : k1 < 14) {z : Int32} (h : f_J1_indexOfChar_4cfef N k1 p2 p3 p4 = some z) : ct_m l G n yJ1_indexOfChar_4cfef cJ1_indexOfChar_4cfef 6 (some .int) ({ frames := 0, cells := 0, slots := 0, locals := 0 }) [.ref (cx_V G k1), .int p2, .int p3, .int p4] I J (ct_qi G n I J z) := by
  refine ct_en (by decide) (Nat.le_of_ble_eq_true rfl) ?_
  intro p e s m args below meth c ls X S hl
  have X : cx_ok G p s m args meth c cJ1_indexOfChar_4cfef 6 RJ1 (some .int) := X
  have hl : lv_has ls 6 [(0, .ref (cx_V G k1)), (1, .int p2), (2, .int p3), (3, .int p4)] := hl
  have hn := S.2.2.2
  unfold f_J1_indexOfChar_4cfef at h
  refine lv_iload_n X.1 X.2.1 dJ1_indexOfChar_4cfef_0 rfl (lv_at hl 1 rfl) ?_
  refine lv_i2b X.1 X.2.1 dJ1_indexOfChar_4cfef_1 rfl ?_
  refine lv_topi (fun x_1 ex_1 => ?_)
  have h := pz_lt_e h ex_1
  refine lv_istore (lv' := [(4, .int x_1), (0, .ref (cx_V G k1)), (1, .int p2), (2, .int p3), (3, .int p4)]) X.1 X.2.1 dJ1_indexOfChar_4cfef_2 hl (by decide) rfl (fun ls hl => ?_)
  refine lv_iload_n X.1 X.2.1 dJ1_indexOfChar_4cfef_4 rfl (lv_at hl 3 rfl) ?_
  refine lv_istore (lv' := [(5, .int p3), (4, .int x_1), (0, .ref (cx_V G k1)), (1, .int p2), (2, .int p3), (3, .int p4)]) X.1 X.2.1 dJ1_indexOfChar_4cfef_5 hl (by decide) rfl (fun ls hl => ?_)
  exact w_J1_indexOfChar_4cfef_L7 X hn hk1 N h S (lv_sub hl [2, 5, 1, 0] rfl)
def f_J1_indexOf_4cfef (N : Nat) (k1 : Nat) (p2 : Int32) (p3 : Int32) (p4 : Int32) : Option (Int32) := pz_bd (f_J1_canEncode_9a6ad N p2) fun q_1 => if q_1 = 0 then (some (-1 : Int32)) else (pz_lt (if p3 < (0 : Int32) then (0 : Int32) else p3) fun x_3 => pz_lt (if (Int32.ofNat (cx_len.getD k1 0)) < p4 then (Int32.ofNat (cx_len.getD k1 0)) else p4) fun x_4 => if x_3 < x_4 then (pz_bd (f_J1_indexOfChar_4cfef N k1 p2 x_3 x_4) fun q_6 => some q_6) else (some (-1 : Int32)))
set_option maxRecDepth 100000 in
set_option maxHeartbeats 4000000 in
theorem c_J1_indexOf_4cfef {l : Launch} {G : cx_T} {N n : Nat} {I J : mm_T} {k1 : Nat} {p2 : Int32} {p3 : Int32} {p4 : Int32} (hk1 : k1 < 14) {z : Int32} (h : f_J1_indexOf_4cfef N k1 p2 p3 p4 = some z) : ct_m l G n yJ1_indexOf_4cfef cJ1_indexOf_4cfef 4 (some .int) ({ frames := 1, cells := 0, slots := 0, locals := 60 }) [.ref (cx_V G k1), .int p2, .int p3, .int p4] I J (ct_qi G n I J z) := by
  refine ct_en (by decide) (Nat.le_of_ble_eq_true rfl) ?_
  intro p e s m args below meth c ls X S hl
  have X : cx_ok G p s m args meth c cJ1_indexOf_4cfef 4 RJ1 (some .int) := X
  have hl : lv_has ls 4 [(0, .ref (cx_V G k1)), (1, .int p2), (2, .int p3), (3, .int p4)] := hl
  have hn := S.2.2.2
  unfold f_J1_indexOf_4cfef at h
  refine lv_iload_n X.1 X.2.1 dJ1_indexOf_4cfef_0 rfl (lv_at hl 1 rfl) ?_
  obtain ⟨q_1, eq_1, h⟩ := pz_bd_e h
  refine r_Si X S (c_J1_canEncode_9a6ad eq_1) gd_J1_88 ny_J1_canEncode_9a6ad ⟨rfl, rfl⟩ ⟨Nat.le_of_ble_eq_true rfl, Nat.le_of_ble_eq_true rfl⟩ rfl rfl hl.1 (Nat.le_of_ble_eq_true rfl) dJ1_indexOf_4cfef_1 (fun H locs S => ?_)
  refine lv_if_ne (tgt := 9) X.1 X.2.1 dJ1_indexOf_4cfef_4 (by decide) (fun c_2 => ?_) (fun c_2 => ?_)
  · have h := pz_f c_2 h
    refine lv_iload_n X.1 X.2.1 dJ1_indexOf_4cfef_9 rfl (lv_at hl 2 rfl) ?_
    refine lv_iconst (v := 0) X.1 X.2.1 dJ1_indexOf_4cfef_10 (by decide) ?_
    refine r_max X S (hl.1) mk_J1_92 (Nat.le_of_ble_eq_true rfl) (Nat.le_of_ble_eq_true rfl) dJ1_indexOf_4cfef_11 ?_
    refine lv_topi (fun x_3 ex_3 => ?_)
    have h := pz_lt_e h ex_3
    refine lv_istore_n (lv' := [(2, .int x_3), (0, .ref (cx_V G k1)), (1, .int p2), (3, .int p4)]) X.1 X.2.1 dJ1_indexOf_4cfef_14 rfl hl (by decide) rfl (fun ls hl => ?_)
    refine lv_iload_n X.1 X.2.1 dJ1_indexOf_4cfef_15 rfl (lv_at hl 3 rfl) ?_
    refine lv_aload_n X.1 X.2.1 dJ1_indexOf_4cfef_16 rfl (lv_at hl 1 rfl) ?_
    refine r_slen X S hk1 dJ1_indexOf_4cfef_17 ?_
    refine r_min X S (hl.1) mk_J1_38 (Nat.le_of_ble_eq_true rfl) (Nat.le_of_ble_eq_true rfl) dJ1_indexOf_4cfef_18 ?_
    refine lv_topi (fun x_4 ex_4 => ?_)
    have h := pz_lt_e h ex_4
    refine lv_istore_n (lv' := [(3, .int x_4), (2, .int x_3), (0, .ref (cx_V G k1)), (1, .int p2)]) X.1 X.2.1 dJ1_indexOf_4cfef_21 rfl hl (by decide) rfl (fun ls hl => ?_)
    refine lv_iload_n X.1 X.2.1 dJ1_indexOf_4cfef_22 rfl (lv_at hl 1 rfl) ?_
    refine lv_iload_n X.1 X.2.1 dJ1_indexOf_4cfef_23 rfl (lv_at hl 0 rfl) ?_
    refine lv_icmp_lt (tgt := 29) X.1 X.2.1 dJ1_indexOf_4cfef_24 (by decide) (fun c_5 => ?_) (fun c_5 => ?_)
    · have h := pz_t c_5 h
      refine lv_aload_n X.1 X.2.1 dJ1_indexOf_4cfef_29 rfl (lv_at hl 2 rfl) ?_
      refine lv_iload_n X.1 X.2.1 dJ1_indexOf_4cfef_30 rfl (lv_at hl 3 rfl) ?_
      refine lv_iload_n X.1 X.2.1 dJ1_indexOf_4cfef_31 rfl (lv_at hl 1 rfl) ?_
      refine lv_iload_n X.1 X.2.1 dJ1_indexOf_4cfef_32 rfl (lv_at hl 0 rfl) ?_
      obtain ⟨q_6, eq_6, h⟩ := pz_bd_e h
      refine r_Si X S (c_J1_indexOfChar_4cfef hk1 eq_6) gd_J1_95 ny_J1_indexOfChar_4cfef ⟨rfl, rfl⟩ ⟨Nat.le_of_ble_eq_true rfl, Nat.le_of_ble_eq_true rfl⟩ rfl rfl hl.1 (Nat.le_of_ble_eq_true rfl) dJ1_indexOf_4cfef_33 (fun H locs S => ?_)
      cases h
      exact r_iret X S dJ1_indexOf_4cfef_36
    have h := pz_f c_5 h
    refine lv_iconst (v := -1) X.1 X.2.1 dJ1_indexOf_4cfef_27 (by decide) ?_
    cases h
    exact r_iret X S dJ1_indexOf_4cfef_28
  have h := pz_t c_2 h
  refine lv_iconst (v := -1) X.1 X.2.1 dJ1_indexOf_4cfef_7 (by decide) ?_
  cases h
  exact r_iret X S dJ1_indexOf_4cfef_8
def f_J0_indexOf_7cf53 (N : Nat) (k0 : Nat) (p1 : Int32) (p2 : Int32) : Option (Int32) := pz_bd (f_J0_isLatin1_aae02 N k0) fun q_1 => if q_1 = 0 then (none) else (pz_bd (f_J0_length_8abf5 N k0) fun q_3 => pz_bd (f_J1_indexOf_4cfef N k0 p1 p2 q_3) fun q_4 => some q_4)
set_option maxRecDepth 100000 in
set_option maxHeartbeats 4000000 in
theorem c_J0_indexOf_7cf53 {l : Launch} {G : cx_T} {N n : Nat} {I J : mm_T} {k0 : Nat} {p1 : Int32} {p2 : Int32} (hk0 : k0 < 14) {z : Int32} (h : f_J0_indexOf_7cf53 N k0 p1 p2 = some z) : ct_m l G n yJ0_indexOf_7cf53 cJ0_indexOf_7cf53 3 (some .int) ({ frames := 2, cells := 0, slots := 0, locals := 83 }) [.ref (cx_K G k0), .int p1, .int p2] I J (ct_qi G n I J z) := by
  refine ct_en (by decide) (Nat.le_of_ble_eq_true rfl) ?_
  intro p e s m args below meth c ls X S hl
  have X : cx_ok G p s m args meth c cJ0_indexOf_7cf53 3 RJ0 (some .int) := X
  have hl : lv_has ls 3 [(0, .ref (cx_K G k0)), (1, .int p1), (2, .int p2)] := hl
  have hn := S.2.2.2
  unfold f_J0_indexOf_7cf53 at h
  refine lv_aload_n X.1 X.2.1 dJ0_indexOf_7cf53_0 rfl (lv_at hl 0 rfl) ?_
  obtain ⟨q_1, eq_1, h⟩ := pz_bd_e h
  refine r_Vi X S (c_J0_isLatin1_aae02 hk0 eq_1) gd_J0_492 ⟨rfl, ny_J0_isLatin1_aae02⟩ ⟨rfl, rfl⟩ ⟨Nat.le_of_ble_eq_true rfl, Nat.le_of_ble_eq_true rfl⟩ (r_srecv X S hk0) rfl rfl hl.1 (Nat.le_of_ble_eq_true rfl) dJ0_indexOf_7cf53_1 (fun H locs S => ?_)
  refine lv_if_eq (tgt := 23) X.1 X.2.1 dJ0_indexOf_7cf53_4 (by decide) (fun c_2 => ?_) (fun c_2 => ?_)
  · have h := pz_t c_2 h
    cases h
  have h := pz_f c_2 h
  refine lv_aload_n X.1 X.2.1 dJ0_indexOf_7cf53_7 rfl (lv_at hl 0 rfl) ?_
  refine r_svalue X S hk0 lk_J0_9 dJ0_indexOf_7cf53_8 ?_
  refine lv_iload_n X.1 X.2.1 dJ0_indexOf_7cf53_11 rfl (lv_at hl 1 rfl) ?_
  refine lv_iload_n X.1 X.2.1 dJ0_indexOf_7cf53_12 rfl (lv_at hl 2 rfl) ?_
  refine lv_aload_n X.1 X.2.1 dJ0_indexOf_7cf53_13 rfl (lv_at hl 0 rfl) ?_
  obtain ⟨q_3, eq_3, h⟩ := pz_bd_e h
  refine r_Vi X S (c_J0_length_8abf5 hk0 eq_3) gd_J0_505 ⟨rfl, ny_J0_length_8abf5⟩ ⟨rfl, rfl⟩ ⟨Nat.le_of_ble_eq_true rfl, Nat.le_of_ble_eq_true rfl⟩ (r_srecv X S hk0) rfl rfl hl.1 (Nat.le_of_ble_eq_true rfl) dJ0_indexOf_7cf53_14 (fun H locs S => ?_)
  obtain ⟨q_4, eq_4, h⟩ := pz_bd_e h
  refine r_Si X S (c_J1_indexOf_4cfef hk0 eq_4) gd_J0_637 ny_J1_indexOf_4cfef ⟨rfl, rfl⟩ ⟨Nat.le_of_ble_eq_true rfl, Nat.le_of_ble_eq_true rfl⟩ rfl rfl hl.1 (Nat.le_of_ble_eq_true rfl) dJ0_indexOf_7cf53_17 (fun H locs S => ?_)
  refine lv_goto (tgt := 36) X.1 X.2.1 dJ0_indexOf_7cf53_20 (by decide) ?_
  cases h
  exact r_iret X S dJ0_indexOf_7cf53_36
def f_J0_indexOf_0f7a4 (N : Nat) (k0 : Nat) (p1 : Int32) : Option (Int32) := pz_bd (f_J0_indexOf_7cf53 N k0 p1 (0 : Int32)) fun q_1 => some q_1
set_option maxRecDepth 100000 in
set_option maxHeartbeats 4000000 in
theorem c_J0_indexOf_0f7a4 {l : Launch} {G : cx_T} {N n : Nat} {I J : mm_T} {k0 : Nat} {p1 : Int32} (hk0 : k0 < 14) {z : Int32} (h : f_J0_indexOf_0f7a4 N k0 p1 = some z) : ct_m l G n yJ0_indexOf_0f7a4 cJ0_indexOf_0f7a4 2 (some .int) ({ frames := 3, cells := 0, slots := 0, locals := 105 }) [.ref (cx_K G k0), .int p1] I J (ct_qi G n I J z) := by
  refine ct_en (by decide) (Nat.le_of_ble_eq_true rfl) ?_
  intro p e s m args below meth c ls X S hl
  have X : cx_ok G p s m args meth c cJ0_indexOf_0f7a4 2 RJ0 (some .int) := X
  have hl : lv_has ls 2 [(0, .ref (cx_K G k0)), (1, .int p1)] := hl
  have hn := S.2.2.2
  unfold f_J0_indexOf_0f7a4 at h
  refine lv_aload_n X.1 X.2.1 dJ0_indexOf_0f7a4_0 rfl (lv_at hl 0 rfl) ?_
  refine lv_iload_n X.1 X.2.1 dJ0_indexOf_0f7a4_1 rfl (lv_at hl 1 rfl) ?_
  refine lv_iconst (v := 0) X.1 X.2.1 dJ0_indexOf_0f7a4_2 (by decide) ?_
  obtain ⟨q_1, eq_1, h⟩ := pz_bd_e h
  refine r_Vi X S (c_J0_indexOf_7cf53 hk0 eq_1) gd_J0_633 ⟨rfl, ny_J0_indexOf_7cf53⟩ ⟨rfl, rfl⟩ ⟨Nat.le_of_ble_eq_true rfl, Nat.le_of_ble_eq_true rfl⟩ (r_srecv X S hk0) rfl rfl hl.1 (Nat.le_of_ble_eq_true rfl) dJ0_indexOf_0f7a4_3 (fun H locs S => ?_)
  cases h
  exact r_iret X S dJ0_indexOf_0f7a4_6
