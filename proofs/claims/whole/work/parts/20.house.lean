def f_X1_hasPerson (N n : Nat) (I : mm_T) (i0 : Nat) (p1 : Int32) : Option (Int32) := if p1 < 0 then (some (0 : Int32)) else (if (I 1 i0 2) ≤ p1 then (some (0 : Int32)) else (some (1 : Int32)))
set_option maxRecDepth 100000 in
set_option maxHeartbeats 4000000 in
theorem c_X1_hasPerson {l : Launch} {G : cx_T} {N n : Nat} {I J : mm_T} {i0 : Nat} {p1 : Int32} (hn : 144 ≤ n) (hi0 : i0 < 2) {z : Int32} (h : f_X1_hasPerson N n I i0 p1 = some z) : ct_m l G n yX1_hasPerson cX1_hasPerson 2 (some .boolean) ({ frames := 0, cells := 0, slots := 0, locals := 0 }) [.ref (cx_b G + ly_loc 1 i0), .int p1] I J (ct_qi G n I J z) := by
  refine ct_en (by decide) (Nat.le_of_ble_eq_true rfl) ?_
  intro p e s m args below meth c ls X S hl
  have X : cx_ok G p s m args meth c cX1_hasPerson 2 RX1 (some .boolean) := X
  have hl : lv_has ls 2 [(0, .ref (cx_b G + ly_loc 1 i0)), (1, .int p1)] := hl
  unfold f_X1_hasPerson at h
  refine lv_iload_n X.1 X.2.1 dX1_hasPerson_0 rfl (lv_at hl 1 rfl) ?_
  refine lv_if_lt (tgt := 16) X.1 X.2.1 dX1_hasPerson_1 (by decide) (fun c_1 => ?_) (fun c_1 => ?_)
  · have h := pz_t c_1 h
    refine lv_iconst (v := 0) X.1 X.2.1 dX1_hasPerson_16 (by decide) ?_
    cases h
    exact r_zret (v := 0) X S rfl dX1_hasPerson_17
  have h := pz_f c_1 h
  refine lv_iload_n X.1 X.2.1 dX1_hasPerson_4 rfl (lv_at hl 1 rfl) ?_
  refine lv_aload_n X.1 X.2.1 dX1_hasPerson_5 rfl (lv_at hl 0 rfl) ?_
  refine gf_X1_29 X S hi0 dX1_hasPerson_6 ?_
  refine lv_icmp_ge (tgt := 16) X.1 X.2.1 dX1_hasPerson_9 (by decide) (fun c_2 => ?_) (fun c_2 => ?_)
  · have h := pz_t c_2 h
    refine lv_iconst (v := 0) X.1 X.2.1 dX1_hasPerson_16 (by decide) ?_
    cases h
    exact r_zret (v := 0) X S rfl dX1_hasPerson_17
  have h := pz_f c_2 h
  refine lv_iconst (v := 1) X.1 X.2.1 dX1_hasPerson_12 (by decide) ?_
  refine lv_goto (tgt := 17) X.1 X.2.1 dX1_hasPerson_13 (by decide) ?_
  cases h
  exact r_zret (v := 1) X S rfl dX1_hasPerson_17
def f_X1_hasSlip (N n : Nat) (I : mm_T) (i0 : Nat) (p1 : Int32) : Option (Int32) := if p1 < 0 then (some (0 : Int32)) else (if (I 1 i0 3) ≤ p1 then (some (0 : Int32)) else (some (1 : Int32)))
set_option maxRecDepth 100000 in
set_option maxHeartbeats 4000000 in
theorem c_X1_hasSlip {l : Launch} {G : cx_T} {N n : Nat} {I J : mm_T} {i0 : Nat} {p1 : Int32} (hn : 144 ≤ n) (hi0 : i0 < 2) {z : Int32} (h : f_X1_hasSlip N n I i0 p1 = some z) : ct_m l G n yX1_hasSlip cX1_hasSlip 2 (some .boolean) ({ frames := 0, cells := 0, slots := 0, locals := 0 }) [.ref (cx_b G + ly_loc 1 i0), .int p1] I J (ct_qi G n I J z) := by
  refine ct_en (by decide) (Nat.le_of_ble_eq_true rfl) ?_
  intro p e s m args below meth c ls X S hl
  have X : cx_ok G p s m args meth c cX1_hasSlip 2 RX1 (some .boolean) := X
  have hl : lv_has ls 2 [(0, .ref (cx_b G + ly_loc 1 i0)), (1, .int p1)] := hl
  unfold f_X1_hasSlip at h
  refine lv_iload_n X.1 X.2.1 dX1_hasSlip_0 rfl (lv_at hl 1 rfl) ?_
  refine lv_if_lt (tgt := 16) X.1 X.2.1 dX1_hasSlip_1 (by decide) (fun c_1 => ?_) (fun c_1 => ?_)
  · have h := pz_t c_1 h
    refine lv_iconst (v := 0) X.1 X.2.1 dX1_hasSlip_16 (by decide) ?_
    cases h
    exact r_zret (v := 0) X S rfl dX1_hasSlip_17
  have h := pz_f c_1 h
  refine lv_iload_n X.1 X.2.1 dX1_hasSlip_4 rfl (lv_at hl 1 rfl) ?_
  refine lv_aload_n X.1 X.2.1 dX1_hasSlip_5 rfl (lv_at hl 0 rfl) ?_
  refine gf_X1_32 X S hi0 dX1_hasSlip_6 ?_
  refine lv_icmp_ge (tgt := 16) X.1 X.2.1 dX1_hasSlip_9 (by decide) (fun c_2 => ?_) (fun c_2 => ?_)
  · have h := pz_t c_2 h
    refine lv_iconst (v := 0) X.1 X.2.1 dX1_hasSlip_16 (by decide) ?_
    cases h
    exact r_zret (v := 0) X S rfl dX1_hasSlip_17
  have h := pz_f c_2 h
  refine lv_iconst (v := 1) X.1 X.2.1 dX1_hasSlip_12 (by decide) ?_
  refine lv_goto (tgt := 17) X.1 X.2.1 dX1_hasSlip_13 (by decide) ?_
  cases h
  exact r_zret (v := 1) X S rfl dX1_hasSlip_17
def f_X1_groupOf (N n : Nat) (I : mm_T) (i0 : Nat) (i1 : Nat) : Option (Int32) := pz_gd (ix_in (I 6 i1 3) 8) <| some (I 2 (8 * i0 + (I 6 i1 3).toNatClampNeg) 1)
set_option maxRecDepth 100000 in
set_option maxHeartbeats 4000000 in
theorem c_X1_groupOf {l : Launch} {G : cx_T} {N n : Nat} {I J : mm_T} {i0 : Nat} {i1 : Nat} (hn : 144 ≤ n) (hi0 : i0 < 2) (hi1 : i1 < 14) {z : Int32} (h : f_X1_groupOf N n I i0 i1 = some z) : ct_m l G n yX1_groupOf cX1_groupOf 2 (some .int) ({ frames := 0, cells := 0, slots := 0, locals := 0 }) [.ref (cx_b G + ly_loc 1 i0), .ref (cx_b G + ly_loc 6 i1)] I J (ct_qi G n I J z) := by
  refine ct_en (by decide) (Nat.le_of_ble_eq_true rfl) ?_
  intro p e s m args below meth c ls X S hl
  have X : cx_ok G p s m args meth c cX1_groupOf 2 RX1 (some .int) := X
  have hl : lv_has ls 2 [(0, .ref (cx_b G + ly_loc 1 i0)), (1, .ref (cx_b G + ly_loc 6 i1))] := hl
  unfold f_X1_groupOf at h
  refine lv_aload_n X.1 X.2.1 dX1_groupOf_0 rfl (lv_at hl 0 rfl) ?_
  refine gf_X1_11 X S hi0 dX1_groupOf_1 ?_
  refine lv_aload_n X.1 X.2.1 dX1_groupOf_4 rfl (lv_at hl 1 rfl) ?_
  refine gf_X1_35 X S hi1 dX1_groupOf_5 ?_
  obtain ⟨g_1, h⟩ := pz_gd_e h
  refine aa_16 X S hi0 g_1 dX1_groupOf_8 ?_
  refine gf_X1_38 X S (el_16 hi0 g_1) dX1_groupOf_9 ?_
  cases h
  exact r_iret X S dX1_groupOf_12
def f_X1_addPerson (N n : Nat) (I : mm_T) (i0 : Nat) (p1 : Int32) (p2 : Int32) : Option (mm_T × Int32) := if (I 1 i0 2) < (8 : Int32) then (pz_gd (ix_in (I 1 i0 2) 8) <| pz_lt (mm_up I 2 (8 * i0 + (I 1 i0 2).toNatClampNeg) 0 p1) fun I_3 => pz_gd (ix_in (I_3 1 i0 2) 8) <| pz_lt (mm_up I_3 2 (8 * i0 + (I_3 1 i0 2).toNatClampNeg) 1 p2) fun I_5 => pz_lt (mm_up I_5 1 i0 2 ((I_5 1 i0 2) + (1 : Int32))) fun I_6 => pz_lt (mm_up I_6 1 i0 7 ((I_6 1 i0 7) + (1 : Int32))) fun I_7 => some (I_7, ((I_7 1 i0 2) - (1 : Int32)))) else (some (I, (-4 : Int32)))
set_option maxRecDepth 100000 in
set_option maxHeartbeats 4000000 in
theorem c_X1_addPerson {l : Launch} {G : cx_T} {N n : Nat} {I J : mm_T} {i0 : Nat} {p1 : Int32} {p2 : Int32} (hn : 144 ≤ n) (hi0 : i0 < 2) {z : mm_T × Int32} (h : f_X1_addPerson N n I i0 p1 p2 = some z) : ct_m l G n yX1_addPerson cX1_addPerson 3 (some .int) ({ frames := 0, cells := 0, slots := 0, locals := 0 }) [.ref (cx_b G + ly_loc 1 i0), .int p1, .int p2] I J (ct_qi G n z.1 J z.2) := by
  refine ct_en (by decide) (Nat.le_of_ble_eq_true rfl) ?_
  intro p e s m args below meth c ls X S hl
  have X : cx_ok G p s m args meth c cX1_addPerson 3 RX1 (some .int) := X
  have hl : lv_has ls 3 [(0, .ref (cx_b G + ly_loc 1 i0)), (1, .int p1), (2, .int p2)] := hl
  unfold f_X1_addPerson at h
  refine lv_aload_n X.1 X.2.1 dX1_addPerson_0 rfl (lv_at hl 0 rfl) ?_
  refine gf_X1_29 X S hi0 dX1_addPerson_1 ?_
  refine lv_bipush (v := 8) X.1 X.2.1 dX1_addPerson_4 (by decide) ?_
  refine lv_icmp_lt (tgt := 12) X.1 X.2.1 dX1_addPerson_6 (by decide) (fun c_1 => ?_) (fun c_1 => ?_)
  · have h := pz_t c_1 h
    refine lv_aload_n X.1 X.2.1 dX1_addPerson_12 rfl (lv_at hl 0 rfl) ?_
    refine gf_X1_11 X S hi0 dX1_addPerson_13 ?_
    refine lv_aload_n X.1 X.2.1 dX1_addPerson_16 rfl (lv_at hl 0 rfl) ?_
    refine gf_X1_29 X S hi0 dX1_addPerson_17 ?_
    obtain ⟨g_2, h⟩ := pz_gd_e h
    refine aa_16 X S hi0 g_2 dX1_addPerson_20 ?_
    refine lv_iload_n X.1 X.2.1 dX1_addPerson_21 rfl (lv_at hl 1 rfl) ?_
    refine pf_X1_41 X S (el_16 hi0 g_2) dX1_addPerson_22 (fun I_3 H locs eI_3 S => ?_)
    have h := pz_lt_e h eI_3
    refine lv_aload_n X.1 X.2.1 dX1_addPerson_25 rfl (lv_at hl 0 rfl) ?_
    refine gf_X1_11 X S hi0 dX1_addPerson_26 ?_
    refine lv_aload_n X.1 X.2.1 dX1_addPerson_29 rfl (lv_at hl 0 rfl) ?_
    refine gf_X1_29 X S hi0 dX1_addPerson_30 ?_
    obtain ⟨g_4, h⟩ := pz_gd_e h
    refine aa_16 X S hi0 g_4 dX1_addPerson_33 ?_
    refine lv_iload_n X.1 X.2.1 dX1_addPerson_34 rfl (lv_at hl 2 rfl) ?_
    refine pf_X1_38 X S (el_16 hi0 g_4) dX1_addPerson_35 (fun I_5 H locs eI_5 S => ?_)
    have h := pz_lt_e h eI_5
    refine lv_aload_n X.1 X.2.1 dX1_addPerson_38 rfl (lv_at hl 0 rfl) ?_
    refine lv_dup X.1 X.2.1 dX1_addPerson_39 rfl ?_
    refine gf_X1_29 X S hi0 dX1_addPerson_40 ?_
    refine lv_iconst (v := 1) X.1 X.2.1 dX1_addPerson_43 (by decide) ?_
    refine lv_iadd X.1 X.2.1 dX1_addPerson_44 ?_
    refine pf_X1_29 X S hi0 dX1_addPerson_45 (fun I_6 H locs eI_6 S => ?_)
    have h := pz_lt_e h eI_6
    refine lv_aload_n X.1 X.2.1 dX1_addPerson_48 rfl (lv_at hl 0 rfl) ?_
    refine lv_dup X.1 X.2.1 dX1_addPerson_49 rfl ?_
    refine gf_X1_44 X S hi0 dX1_addPerson_50 ?_
    refine lv_iconst (v := 1) X.1 X.2.1 dX1_addPerson_53 (by decide) ?_
    refine lv_iadd X.1 X.2.1 dX1_addPerson_54 ?_
    refine pf_X1_44 X S hi0 dX1_addPerson_55 (fun I_7 H locs eI_7 S => ?_)
    have h := pz_lt_e h eI_7
    refine lv_aload_n X.1 X.2.1 dX1_addPerson_58 rfl (lv_at hl 0 rfl) ?_
    refine gf_X1_29 X S hi0 dX1_addPerson_59 ?_
    refine lv_iconst (v := 1) X.1 X.2.1 dX1_addPerson_62 (by decide) ?_
    refine lv_isub X.1 X.2.1 dX1_addPerson_63 ?_
    cases h
    exact r_iret X S dX1_addPerson_64
  have h := pz_f c_1 h
  refine lv_bipush (v := -4) X.1 X.2.1 dX1_addPerson_9 (by decide) ?_
  cases h
  exact r_iret X S dX1_addPerson_11
def f_X1_addSlip (N n : Nat) (I : mm_T) (i0 : Nat) (p1 : Int32) (p2 : Int32) (p3 : Int32) : Option (mm_T × Int32) := if p1 < 0 then (some (I, (-2 : Int32))) else (if (5 : Int32) < p1 then (some (I, (-2 : Int32))) else (if p2 < (10 : Int32) then (some (I, (-2 : Int32))) else (if (99 : Int32) < p2 then (some (I, (-2 : Int32))) else (pz_bd (f_X1_hasPerson N n I i0 p3) fun q_5 => if q_5 = 0 then (some (I, (-2 : Int32))) else (if (I 1 i0 3) < (7 : Int32) then (pz_gd (ix_in (I 1 i0 3) 7) <| pz_lt (mm_up I 6 (7 * i0 + (I 1 i0 3).toNatClampNeg) 0 p1) fun I_9 => pz_lt (mm_up I_9 6 (7 * i0 + (I 1 i0 3).toNatClampNeg) 1 (p2 - p2 / (10 : Int32) * (10 : Int32))) fun I_10 => pz_lt (mm_up I_10 6 (7 * i0 + (I 1 i0 3).toNatClampNeg) 2 (p2 / (10 : Int32))) fun I_11 => pz_lt (mm_up I_11 6 (7 * i0 + (I 1 i0 3).toNatClampNeg) 3 p3) fun I_12 => pz_lt (mm_up I_12 1 i0 3 ((I_12 1 i0 3) + (1 : Int32))) fun I_13 => pz_lt (mm_up I_13 1 i0 7 ((I_13 1 i0 7) + (1 : Int32))) fun I_14 => some (I_14, ((I_14 1 i0 3) - (1 : Int32)))) else (some (I, (-4 : Int32))))))))
set_option maxRecDepth 100000 in
set_option maxHeartbeats 4000000 in
theorem c_X1_addSlip {l : Launch} {G : cx_T} {N n : Nat} {I J : mm_T} {i0 : Nat} {p1 : Int32} {p2 : Int32} {p3 : Int32} (hn : 144 ≤ n) (hi0 : i0 < 2) {z : mm_T × Int32} (h : f_X1_addSlip N n I i0 p1 p2 p3 = some z) : ct_m l G n yX1_addSlip cX1_addSlip 5 (some .int) ({ frames := 1, cells := 0, slots := 0, locals := 21 }) [.ref (cx_b G + ly_loc 1 i0), .int p1, .int p2, .int p3] I J (ct_qi G n z.1 J z.2) := by
  refine ct_en (by decide) (Nat.le_of_ble_eq_true rfl) ?_
  intro p e s m args below meth c ls X S hl
  have X : cx_ok G p s m args meth c cX1_addSlip 5 RX1 (some .int) := X
  have hl : lv_has ls 5 [(0, .ref (cx_b G + ly_loc 1 i0)), (1, .int p1), (2, .int p2), (3, .int p3)] := hl
  unfold f_X1_addSlip at h
  refine lv_iload_n X.1 X.2.1 dX1_addSlip_0 rfl (lv_at hl 1 rfl) ?_
  refine lv_if_lt (tgt := 29) X.1 X.2.1 dX1_addSlip_1 (by decide) (fun c_1 => ?_) (fun c_1 => ?_)
  · have h := pz_t c_1 h
    refine lv_bipush (v := -2) X.1 X.2.1 dX1_addSlip_29 (by decide) ?_
    cases h
    exact r_iret X S dX1_addSlip_31
  have h := pz_f c_1 h
  refine lv_iload_n X.1 X.2.1 dX1_addSlip_4 rfl (lv_at hl 1 rfl) ?_
  refine lv_iconst (v := 5) X.1 X.2.1 dX1_addSlip_5 (by decide) ?_
  refine lv_icmp_gt (tgt := 29) X.1 X.2.1 dX1_addSlip_6 (by decide) (fun c_2 => ?_) (fun c_2 => ?_)
  · have h := pz_t c_2 h
    refine lv_bipush (v := -2) X.1 X.2.1 dX1_addSlip_29 (by decide) ?_
    cases h
    exact r_iret X S dX1_addSlip_31
  have h := pz_f c_2 h
  refine lv_iload_n X.1 X.2.1 dX1_addSlip_9 rfl (lv_at hl 2 rfl) ?_
  refine lv_bipush (v := 10) X.1 X.2.1 dX1_addSlip_10 (by decide) ?_
  refine lv_icmp_lt (tgt := 29) X.1 X.2.1 dX1_addSlip_12 (by decide) (fun c_3 => ?_) (fun c_3 => ?_)
  · have h := pz_t c_3 h
    refine lv_bipush (v := -2) X.1 X.2.1 dX1_addSlip_29 (by decide) ?_
    cases h
    exact r_iret X S dX1_addSlip_31
  have h := pz_f c_3 h
  refine lv_iload_n X.1 X.2.1 dX1_addSlip_15 rfl (lv_at hl 2 rfl) ?_
  refine lv_bipush (v := 99) X.1 X.2.1 dX1_addSlip_16 (by decide) ?_
  refine lv_icmp_gt (tgt := 29) X.1 X.2.1 dX1_addSlip_18 (by decide) (fun c_4 => ?_) (fun c_4 => ?_)
  · have h := pz_t c_4 h
    refine lv_bipush (v := -2) X.1 X.2.1 dX1_addSlip_29 (by decide) ?_
    cases h
    exact r_iret X S dX1_addSlip_31
  have h := pz_f c_4 h
  refine lv_aload_n X.1 X.2.1 dX1_addSlip_21 rfl (lv_at hl 0 rfl) ?_
  refine lv_iload_n X.1 X.2.1 dX1_addSlip_22 rfl (lv_at hl 3 rfl) ?_
  obtain ⟨q_5, eq_5, h⟩ := pz_bd_e h
  refine r_Vi X S (c_X1_hasPerson hn hi0 eq_5) gd_X1_47 ⟨rfl, ny_X1_hasPerson⟩ ⟨rfl, rfl⟩ ⟨Nat.le_of_ble_eq_true rfl, Nat.le_of_ble_eq_true rfl⟩ (r_recv X S (ly_ok_1 hi0 S.2.2.2) rfl rfl) rfl rfl hl.1 (Nat.le_of_ble_eq_true rfl) dX1_addSlip_23 (fun H locs S => ?_)
  refine lv_if_ne (tgt := 32) X.1 X.2.1 dX1_addSlip_26 (by decide) (fun c_6 => ?_) (fun c_6 => ?_)
  · have h := pz_f c_6 h
    refine lv_aload_n X.1 X.2.1 dX1_addSlip_32 rfl (lv_at hl 0 rfl) ?_
    refine gf_X1_32 X S hi0 dX1_addSlip_33 ?_
    refine lv_bipush (v := 7) X.1 X.2.1 dX1_addSlip_36 (by decide) ?_
    refine lv_icmp_lt (tgt := 44) X.1 X.2.1 dX1_addSlip_38 (by decide) (fun c_7 => ?_) (fun c_7 => ?_)
    · have h := pz_t c_7 h
      refine lv_aload_n X.1 X.2.1 dX1_addSlip_44 rfl (lv_at hl 0 rfl) ?_
      refine gf_X1_19 X S hi0 dX1_addSlip_45 ?_
      refine lv_aload_n X.1 X.2.1 dX1_addSlip_48 rfl (lv_at hl 0 rfl) ?_
      refine gf_X1_32 X S hi0 dX1_addSlip_49 ?_
      obtain ⟨g_8, h⟩ := pz_gd_e h
      refine aa_17 X S hi0 g_8 dX1_addSlip_52 ?_
      refine lv_astore (lv' := [(4, .ref (cx_b G + ly_loc 6 (7 * i0 + (I 1 i0 3).toNatClampNeg))), (0, .ref (cx_b G + ly_loc 1 i0)), (1, .int p1), (2, .int p2), (3, .int p3)]) X.1 X.2.1 dX1_addSlip_53 hl (by decide) rfl (fun ls hl => ?_)
      refine lv_aload X.1 X.2.1 dX1_addSlip_55 (lv_at hl 0 rfl) ?_
      refine lv_iload_n X.1 X.2.1 dX1_addSlip_57 rfl (lv_at hl 2 rfl) ?_
      refine pf_X1_51 X S (el_17 hi0 g_8) dX1_addSlip_58 (fun I_9 H locs eI_9 S => ?_)
      have h := pz_lt_e h eI_9
      refine lv_aload X.1 X.2.1 dX1_addSlip_61 (lv_at hl 0 rfl) ?_
      refine lv_iload_n X.1 X.2.1 dX1_addSlip_63 rfl (lv_at hl 3 rfl) ?_
      refine lv_bipush (v := 10) X.1 X.2.1 dX1_addSlip_64 (by decide) ?_
      refine lv_irem X.1 X.2.1 dX1_addSlip_66 (by decide) ?_
      refine pf_X1_54 X S (el_17 hi0 g_8) dX1_addSlip_67 (fun I_10 H locs eI_10 S => ?_)
      have h := pz_lt_e h eI_10
      refine lv_aload X.1 X.2.1 dX1_addSlip_70 (lv_at hl 0 rfl) ?_
      refine lv_iload_n X.1 X.2.1 dX1_addSlip_72 rfl (lv_at hl 3 rfl) ?_
      refine lv_bipush (v := 10) X.1 X.2.1 dX1_addSlip_73 (by decide) ?_
      refine lv_idiv X.1 X.2.1 dX1_addSlip_75 (by decide) ?_
      refine pf_X1_57 X S (el_17 hi0 g_8) dX1_addSlip_76 (fun I_11 H locs eI_11 S => ?_)
      have h := pz_lt_e h eI_11
      refine lv_aload X.1 X.2.1 dX1_addSlip_79 (lv_at hl 0 rfl) ?_
      refine lv_iload_n X.1 X.2.1 dX1_addSlip_81 rfl (lv_at hl 4 rfl) ?_
      refine pf_X1_35 X S (el_17 hi0 g_8) dX1_addSlip_82 (fun I_12 H locs eI_12 S => ?_)
      have h := pz_lt_e h eI_12
      refine lv_aload_n X.1 X.2.1 dX1_addSlip_85 rfl (lv_at hl 1 rfl) ?_
      refine lv_dup X.1 X.2.1 dX1_addSlip_86 rfl ?_
      refine gf_X1_32 X S hi0 dX1_addSlip_87 ?_
      refine lv_iconst (v := 1) X.1 X.2.1 dX1_addSlip_90 (by decide) ?_
      refine lv_iadd X.1 X.2.1 dX1_addSlip_91 ?_
      refine pf_X1_32 X S hi0 dX1_addSlip_92 (fun I_13 H locs eI_13 S => ?_)
      have h := pz_lt_e h eI_13
      refine lv_aload_n X.1 X.2.1 dX1_addSlip_95 rfl (lv_at hl 1 rfl) ?_
      refine lv_dup X.1 X.2.1 dX1_addSlip_96 rfl ?_
      refine gf_X1_44 X S hi0 dX1_addSlip_97 ?_
      refine lv_iconst (v := 1) X.1 X.2.1 dX1_addSlip_100 (by decide) ?_
      refine lv_iadd X.1 X.2.1 dX1_addSlip_101 ?_
      refine pf_X1_44 X S hi0 dX1_addSlip_102 (fun I_14 H locs eI_14 S => ?_)
      have h := pz_lt_e h eI_14
      refine lv_aload_n X.1 X.2.1 dX1_addSlip_105 rfl (lv_at hl 1 rfl) ?_
      refine gf_X1_32 X S hi0 dX1_addSlip_106 ?_
      refine lv_iconst (v := 1) X.1 X.2.1 dX1_addSlip_109 (by decide) ?_
      refine lv_isub X.1 X.2.1 dX1_addSlip_110 ?_
      cases h
      exact r_iret X S dX1_addSlip_111
    have h := pz_f c_7 h
    refine lv_bipush (v := -4) X.1 X.2.1 dX1_addSlip_41 (by decide) ?_
    cases h
    exact r_iret X S dX1_addSlip_43
  have h := pz_t c_6 h
  refine lv_bipush (v := -2) X.1 X.2.1 dX1_addSlip_29 (by decide) ?_
  cases h
  exact r_iret X S dX1_addSlip_31
def f_X1_hasValue (N n : Nat) (I : mm_T) (i0 : Nat) (p1 : Int32) (p2 : Int32) : Option (Int32) := pz_lt p1 fun x_1 => if x_1 = (0 : Int32) then (pz_bd (f_X1_hasPerson N n I i0 p2) fun q_3 => pz_gd (pz_z q_3) <| some q_3) else if x_1 = (1 : Int32) then (pz_bd (f_X1_hasPerson N n I i0 p2) fun q_6 => pz_gd (pz_z q_6) <| some q_6) else if x_1 = (2 : Int32) then (pz_bd (f_X1_hasSlip N n I i0 p2) fun q_9 => pz_gd (pz_z q_9) <| some q_9) else if x_1 = (3 : Int32) then (pz_bd (f_X1_hasSlip N n I i0 p2) fun q_12 => pz_gd (pz_z q_12) <| some q_12) else if x_1 = (4 : Int32) then (pz_bd (f_X1_hasSlip N n I i0 p2) fun q_15 => pz_gd (pz_z q_15) <| some q_15) else if x_1 = (5 : Int32) then (some (1 : Int32)) else if x_1 = (6 : Int32) then (some (1 : Int32)) else (some (0 : Int32))
set_option maxRecDepth 100000 in
set_option maxHeartbeats 4000000 in
theorem c_X1_hasValue {l : Launch} {G : cx_T} {N n : Nat} {I J : mm_T} {i0 : Nat} {p1 : Int32} {p2 : Int32} (hn : 144 ≤ n) (hi0 : i0 < 2) {z : Int32} (h : f_X1_hasValue N n I i0 p1 p2 = some z) : ct_m l G n yX1_hasValue cX1_hasValue 3 (some .boolean) ({ frames := 1, cells := 0, slots := 0, locals := 21 }) [.ref (cx_b G + ly_loc 1 i0), .int p1, .int p2] I J (ct_qi G n I J z) := by
  refine ct_en (by decide) (Nat.le_of_ble_eq_true rfl) ?_
  intro p e s m args below meth c ls X S hl
  have X : cx_ok G p s m args meth c cX1_hasValue 3 RX1 (some .boolean) := X
  have hl : lv_has ls 3 [(0, .ref (cx_b G + ly_loc 1 i0)), (1, .int p1), (2, .int p2)] := hl
  unfold f_X1_hasValue at h
  refine lv_iload_n X.1 X.2.1 dX1_hasValue_0 rfl (lv_at hl 1 rfl) ?_
  refine lv_topi (fun x_1 ex_1 => ?_)
  have h := pz_lt_e h ex_1
  rcases Decidable.em (x_1 = (0 : Int32)) with c_2 | c_2
  · have h := pz_t c_2 h
    refine lv_tableIn (off := 43) (tgt := 44) X.1 X.2.1 dX1_hasValue_1 (by rw [c_2]; decide +kernel) (by rw [c_2]; decide +kernel) (by rw [c_2]; decide +kernel) (by decide) ?_
    refine lv_aload_n X.1 X.2.1 dX1_hasValue_44 rfl (lv_at hl 0 rfl) ?_
    refine lv_iload_n X.1 X.2.1 dX1_hasValue_45 rfl (lv_at hl 2 rfl) ?_
    obtain ⟨q_3, eq_3, h⟩ := pz_bd_e h
    refine r_Vi X S (c_X1_hasPerson hn hi0 eq_3) gd_X1_47 ⟨rfl, ny_X1_hasPerson⟩ ⟨rfl, rfl⟩ ⟨Nat.le_of_ble_eq_true rfl, Nat.le_of_ble_eq_true rfl⟩ (r_recv X S (ly_ok_1 hi0 S.2.2.2) rfl rfl) rfl rfl hl.1 (Nat.le_of_ble_eq_true rfl) dX1_hasValue_46 (fun H locs S => ?_)
    obtain ⟨g_4, h⟩ := pz_gd_e h
    cases h
    exact r_zret X S (pz_zn g_4) dX1_hasValue_49
  have h := pz_f c_2 h
  rcases Decidable.em (x_1 = (1 : Int32)) with c_5 | c_5
  · have h := pz_t c_5 h
    refine lv_tableIn (off := 43) (tgt := 44) X.1 X.2.1 dX1_hasValue_1 (by rw [c_5]; decide +kernel) (by rw [c_5]; decide +kernel) (by rw [c_5]; decide +kernel) (by decide) ?_
    refine lv_aload_n X.1 X.2.1 dX1_hasValue_44 rfl (lv_at hl 0 rfl) ?_
    refine lv_iload_n X.1 X.2.1 dX1_hasValue_45 rfl (lv_at hl 2 rfl) ?_
    obtain ⟨q_6, eq_6, h⟩ := pz_bd_e h
    refine r_Vi X S (c_X1_hasPerson hn hi0 eq_6) gd_X1_47 ⟨rfl, ny_X1_hasPerson⟩ ⟨rfl, rfl⟩ ⟨Nat.le_of_ble_eq_true rfl, Nat.le_of_ble_eq_true rfl⟩ (r_recv X S (ly_ok_1 hi0 S.2.2.2) rfl rfl) rfl rfl hl.1 (Nat.le_of_ble_eq_true rfl) dX1_hasValue_46 (fun H locs S => ?_)
    obtain ⟨g_7, h⟩ := pz_gd_e h
    cases h
    exact r_zret X S (pz_zn g_7) dX1_hasValue_49
  have h := pz_f c_5 h
  rcases Decidable.em (x_1 = (2 : Int32)) with c_8 | c_8
  · have h := pz_t c_8 h
    refine lv_tableIn (off := 49) (tgt := 50) X.1 X.2.1 dX1_hasValue_1 (by rw [c_8]; decide +kernel) (by rw [c_8]; decide +kernel) (by rw [c_8]; decide +kernel) (by decide) ?_
    refine lv_aload_n X.1 X.2.1 dX1_hasValue_50 rfl (lv_at hl 0 rfl) ?_
    refine lv_iload_n X.1 X.2.1 dX1_hasValue_51 rfl (lv_at hl 2 rfl) ?_
    obtain ⟨q_9, eq_9, h⟩ := pz_bd_e h
    refine r_Vi X S (c_X1_hasSlip hn hi0 eq_9) gd_X1_60 ⟨rfl, ny_X1_hasSlip⟩ ⟨rfl, rfl⟩ ⟨Nat.le_of_ble_eq_true rfl, Nat.le_of_ble_eq_true rfl⟩ (r_recv X S (ly_ok_1 hi0 S.2.2.2) rfl rfl) rfl rfl hl.1 (Nat.le_of_ble_eq_true rfl) dX1_hasValue_52 (fun H locs S => ?_)
    obtain ⟨g_10, h⟩ := pz_gd_e h
    cases h
    exact r_zret X S (pz_zn g_10) dX1_hasValue_55
  have h := pz_f c_8 h
  rcases Decidable.em (x_1 = (3 : Int32)) with c_11 | c_11
  · have h := pz_t c_11 h
    refine lv_tableIn (off := 49) (tgt := 50) X.1 X.2.1 dX1_hasValue_1 (by rw [c_11]; decide +kernel) (by rw [c_11]; decide +kernel) (by rw [c_11]; decide +kernel) (by decide) ?_
    refine lv_aload_n X.1 X.2.1 dX1_hasValue_50 rfl (lv_at hl 0 rfl) ?_
    refine lv_iload_n X.1 X.2.1 dX1_hasValue_51 rfl (lv_at hl 2 rfl) ?_
    obtain ⟨q_12, eq_12, h⟩ := pz_bd_e h
    refine r_Vi X S (c_X1_hasSlip hn hi0 eq_12) gd_X1_60 ⟨rfl, ny_X1_hasSlip⟩ ⟨rfl, rfl⟩ ⟨Nat.le_of_ble_eq_true rfl, Nat.le_of_ble_eq_true rfl⟩ (r_recv X S (ly_ok_1 hi0 S.2.2.2) rfl rfl) rfl rfl hl.1 (Nat.le_of_ble_eq_true rfl) dX1_hasValue_52 (fun H locs S => ?_)
    obtain ⟨g_13, h⟩ := pz_gd_e h
    cases h
    exact r_zret X S (pz_zn g_13) dX1_hasValue_55
  have h := pz_f c_11 h
  rcases Decidable.em (x_1 = (4 : Int32)) with c_14 | c_14
  · have h := pz_t c_14 h
    refine lv_tableIn (off := 49) (tgt := 50) X.1 X.2.1 dX1_hasValue_1 (by rw [c_14]; decide +kernel) (by rw [c_14]; decide +kernel) (by rw [c_14]; decide +kernel) (by decide) ?_
    refine lv_aload_n X.1 X.2.1 dX1_hasValue_50 rfl (lv_at hl 0 rfl) ?_
    refine lv_iload_n X.1 X.2.1 dX1_hasValue_51 rfl (lv_at hl 2 rfl) ?_
    obtain ⟨q_15, eq_15, h⟩ := pz_bd_e h
    refine r_Vi X S (c_X1_hasSlip hn hi0 eq_15) gd_X1_60 ⟨rfl, ny_X1_hasSlip⟩ ⟨rfl, rfl⟩ ⟨Nat.le_of_ble_eq_true rfl, Nat.le_of_ble_eq_true rfl⟩ (r_recv X S (ly_ok_1 hi0 S.2.2.2) rfl rfl) rfl rfl hl.1 (Nat.le_of_ble_eq_true rfl) dX1_hasValue_52 (fun H locs S => ?_)
    obtain ⟨g_16, h⟩ := pz_gd_e h
    cases h
    exact r_zret X S (pz_zn g_16) dX1_hasValue_55
  have h := pz_f c_14 h
  rcases Decidable.em (x_1 = (5 : Int32)) with c_17 | c_17
  · have h := pz_t c_17 h
    refine lv_tableIn (off := 55) (tgt := 56) X.1 X.2.1 dX1_hasValue_1 (by rw [c_17]; decide +kernel) (by rw [c_17]; decide +kernel) (by rw [c_17]; decide +kernel) (by decide) ?_
    refine lv_iconst (v := 1) X.1 X.2.1 dX1_hasValue_56 (by decide) ?_
    cases h
    exact r_zret (v := 1) X S rfl dX1_hasValue_57
  have h := pz_f c_17 h
  rcases Decidable.em (x_1 = (6 : Int32)) with c_18 | c_18
  · have h := pz_t c_18 h
    refine lv_tableIn (off := 55) (tgt := 56) X.1 X.2.1 dX1_hasValue_1 (by rw [c_18]; decide +kernel) (by rw [c_18]; decide +kernel) (by rw [c_18]; decide +kernel) (by decide) ?_
    refine lv_iconst (v := 1) X.1 X.2.1 dX1_hasValue_56 (by decide) ?_
    cases h
    exact r_zret (v := 1) X S rfl dX1_hasValue_57
  have h := pz_f c_18 h
  refine lv_tableOut (tgt := 58) X.1 X.2.1 dX1_hasValue_1 (pz_out 0 6 [(0 : Int32), (1 : Int32), (2 : Int32), (3 : Int32), (4 : Int32), (5 : Int32), (6 : Int32)] (by decide +kernel) (by simp only [List.forall_mem_cons, List.not_mem_nil, false_imp_iff, implies_true, and_true]; exact ⟨c_2, c_5, c_8, c_11, c_14, c_17, c_18⟩)) (by decide) ?_
  refine lv_iconst (v := 0) X.1 X.2.1 dX1_hasValue_58 (by decide) ?_
  cases h
  exact r_zret (v := 0) X S rfl dX1_hasValue_59
def f_X1_allows (N n : Nat) (I : mm_T) (i0 : Nat) (p1 : Int32) (p2 : Int32) : Option (Int32) := pz_lt p1 fun x_1 => if x_1 = (0 : Int32) then (if p2 < 0 then (some (0 : Int32)) else (if (99 : Int32) < p2 then (some (0 : Int32)) else (some (1 : Int32)))) else if x_1 = (1 : Int32) then (if p2 < 0 then (some (0 : Int32)) else (if (8 : Int32) ≤ p2 then (some (0 : Int32)) else (some (1 : Int32)))) else if x_1 = (2 : Int32) then (if p2 < 0 then (some (0 : Int32)) else (if (9 : Int32) < p2 then (some (0 : Int32)) else (some (1 : Int32)))) else if x_1 = (3 : Int32) then (if p2 < (1 : Int32) then (some (0 : Int32)) else (if (9 : Int32) < p2 then (some (0 : Int32)) else (some (1 : Int32)))) else if x_1 = (4 : Int32) then (pz_bd (f_X1_hasPerson N n I i0 p2) fun q_15 => pz_gd (pz_z q_15) <| some q_15) else if x_1 = (5 : Int32) then (if p2 < (-99 : Int32) then (some (0 : Int32)) else (if (99 : Int32) < p2 then (some (0 : Int32)) else (some (1 : Int32)))) else if x_1 = (6 : Int32) then (if p2 < (1 : Int32) then (some (0 : Int32)) else (if (99 : Int32) < p2 then (some (0 : Int32)) else (some (1 : Int32)))) else (some (0 : Int32))
set_option maxRecDepth 100000 in
set_option maxHeartbeats 4000000 in
theorem c_X1_allows {l : Launch} {G : cx_T} {N n : Nat} {I J : mm_T} {i0 : Nat} {p1 : Int32} {p2 : Int32} (hn : 144 ≤ n) (hi0 : i0 < 2) {z : Int32} (h : f_X1_allows N n I i0 p1 p2 = some z) : ct_m l G n yX1_allows cX1_allows 3 (some .boolean) ({ frames := 1, cells := 0, slots := 0, locals := 21 }) [.ref (cx_b G + ly_loc 1 i0), .int p1, .int p2] I J (ct_qi G n I J z) := by
  refine ct_en (by decide) (Nat.le_of_ble_eq_true rfl) ?_
  intro p e s m args below meth c ls X S hl
  have X : cx_ok G p s m args meth c cX1_allows 3 RX1 (some .boolean) := X
  have hl : lv_has ls 3 [(0, .ref (cx_b G + ly_loc 1 i0)), (1, .int p1), (2, .int p2)] := hl
  unfold f_X1_allows at h
  refine lv_iload_n X.1 X.2.1 dX1_allows_0 rfl (lv_at hl 1 rfl) ?_
  refine lv_topi (fun x_1 ex_1 => ?_)
  have h := pz_lt_e h ex_1
  rcases Decidable.em (x_1 = (0 : Int32)) with c_2 | c_2
  · have h := pz_t c_2 h
    refine lv_tableIn (off := 43) (tgt := 44) X.1 X.2.1 dX1_allows_1 (by rw [c_2]; decide +kernel) (by rw [c_2]; decide +kernel) (by rw [c_2]; decide +kernel) (by decide) ?_
    refine lv_iload_n X.1 X.2.1 dX1_allows_44 rfl (lv_at hl 2 rfl) ?_
    refine lv_if_lt (tgt := 58) X.1 X.2.1 dX1_allows_45 (by decide) (fun c_3 => ?_) (fun c_3 => ?_)
    · have h := pz_t c_3 h
      refine lv_iconst (v := 0) X.1 X.2.1 dX1_allows_58 (by decide) ?_
      cases h
      exact r_zret (v := 0) X S rfl dX1_allows_59
    have h := pz_f c_3 h
    refine lv_iload_n X.1 X.2.1 dX1_allows_48 rfl (lv_at hl 2 rfl) ?_
    refine lv_bipush (v := 99) X.1 X.2.1 dX1_allows_49 (by decide) ?_
    refine lv_icmp_gt (tgt := 58) X.1 X.2.1 dX1_allows_51 (by decide) (fun c_4 => ?_) (fun c_4 => ?_)
    · have h := pz_t c_4 h
      refine lv_iconst (v := 0) X.1 X.2.1 dX1_allows_58 (by decide) ?_
      cases h
      exact r_zret (v := 0) X S rfl dX1_allows_59
    have h := pz_f c_4 h
    refine lv_iconst (v := 1) X.1 X.2.1 dX1_allows_54 (by decide) ?_
    refine lv_goto (tgt := 59) X.1 X.2.1 dX1_allows_55 (by decide) ?_
    cases h
    exact r_zret (v := 1) X S rfl dX1_allows_59
  have h := pz_f c_2 h
  rcases Decidable.em (x_1 = (1 : Int32)) with c_5 | c_5
  · have h := pz_t c_5 h
    refine lv_tableIn (off := 59) (tgt := 60) X.1 X.2.1 dX1_allows_1 (by rw [c_5]; decide +kernel) (by rw [c_5]; decide +kernel) (by rw [c_5]; decide +kernel) (by decide) ?_
    refine lv_iload_n X.1 X.2.1 dX1_allows_60 rfl (lv_at hl 2 rfl) ?_
    refine lv_if_lt (tgt := 74) X.1 X.2.1 dX1_allows_61 (by decide) (fun c_6 => ?_) (fun c_6 => ?_)
    · have h := pz_t c_6 h
      refine lv_iconst (v := 0) X.1 X.2.1 dX1_allows_74 (by decide) ?_
      cases h
      exact r_zret (v := 0) X S rfl dX1_allows_75
    have h := pz_f c_6 h
    refine lv_iload_n X.1 X.2.1 dX1_allows_64 rfl (lv_at hl 2 rfl) ?_
    refine lv_bipush (v := 8) X.1 X.2.1 dX1_allows_65 (by decide) ?_
    refine lv_icmp_ge (tgt := 74) X.1 X.2.1 dX1_allows_67 (by decide) (fun c_7 => ?_) (fun c_7 => ?_)
    · have h := pz_t c_7 h
      refine lv_iconst (v := 0) X.1 X.2.1 dX1_allows_74 (by decide) ?_
      cases h
      exact r_zret (v := 0) X S rfl dX1_allows_75
    have h := pz_f c_7 h
    refine lv_iconst (v := 1) X.1 X.2.1 dX1_allows_70 (by decide) ?_
    refine lv_goto (tgt := 75) X.1 X.2.1 dX1_allows_71 (by decide) ?_
    cases h
    exact r_zret (v := 1) X S rfl dX1_allows_75
  have h := pz_f c_5 h
  rcases Decidable.em (x_1 = (2 : Int32)) with c_8 | c_8
  · have h := pz_t c_8 h
    refine lv_tableIn (off := 75) (tgt := 76) X.1 X.2.1 dX1_allows_1 (by rw [c_8]; decide +kernel) (by rw [c_8]; decide +kernel) (by rw [c_8]; decide +kernel) (by decide) ?_
    refine lv_iload_n X.1 X.2.1 dX1_allows_76 rfl (lv_at hl 2 rfl) ?_
    refine lv_if_lt (tgt := 90) X.1 X.2.1 dX1_allows_77 (by decide) (fun c_9 => ?_) (fun c_9 => ?_)
    · have h := pz_t c_9 h
      refine lv_iconst (v := 0) X.1 X.2.1 dX1_allows_90 (by decide) ?_
      cases h
      exact r_zret (v := 0) X S rfl dX1_allows_91
    have h := pz_f c_9 h
    refine lv_iload_n X.1 X.2.1 dX1_allows_80 rfl (lv_at hl 2 rfl) ?_
    refine lv_bipush (v := 9) X.1 X.2.1 dX1_allows_81 (by decide) ?_
    refine lv_icmp_gt (tgt := 90) X.1 X.2.1 dX1_allows_83 (by decide) (fun c_10 => ?_) (fun c_10 => ?_)
    · have h := pz_t c_10 h
      refine lv_iconst (v := 0) X.1 X.2.1 dX1_allows_90 (by decide) ?_
      cases h
      exact r_zret (v := 0) X S rfl dX1_allows_91
    have h := pz_f c_10 h
    refine lv_iconst (v := 1) X.1 X.2.1 dX1_allows_86 (by decide) ?_
    refine lv_goto (tgt := 91) X.1 X.2.1 dX1_allows_87 (by decide) ?_
    cases h
    exact r_zret (v := 1) X S rfl dX1_allows_91
  have h := pz_f c_8 h
  rcases Decidable.em (x_1 = (3 : Int32)) with c_11 | c_11
  · have h := pz_t c_11 h
    refine lv_tableIn (off := 91) (tgt := 92) X.1 X.2.1 dX1_allows_1 (by rw [c_11]; decide +kernel) (by rw [c_11]; decide +kernel) (by rw [c_11]; decide +kernel) (by decide) ?_
    refine lv_iload_n X.1 X.2.1 dX1_allows_92 rfl (lv_at hl 2 rfl) ?_
    refine lv_iconst (v := 1) X.1 X.2.1 dX1_allows_93 (by decide) ?_
    refine lv_icmp_lt (tgt := 107) X.1 X.2.1 dX1_allows_94 (by decide) (fun c_12 => ?_) (fun c_12 => ?_)
    · have h := pz_t c_12 h
      refine lv_iconst (v := 0) X.1 X.2.1 dX1_allows_107 (by decide) ?_
      cases h
      exact r_zret (v := 0) X S rfl dX1_allows_108
    have h := pz_f c_12 h
    refine lv_iload_n X.1 X.2.1 dX1_allows_97 rfl (lv_at hl 2 rfl) ?_
    refine lv_bipush (v := 9) X.1 X.2.1 dX1_allows_98 (by decide) ?_
    refine lv_icmp_gt (tgt := 107) X.1 X.2.1 dX1_allows_100 (by decide) (fun c_13 => ?_) (fun c_13 => ?_)
    · have h := pz_t c_13 h
      refine lv_iconst (v := 0) X.1 X.2.1 dX1_allows_107 (by decide) ?_
      cases h
      exact r_zret (v := 0) X S rfl dX1_allows_108
    have h := pz_f c_13 h
    refine lv_iconst (v := 1) X.1 X.2.1 dX1_allows_103 (by decide) ?_
    refine lv_goto (tgt := 108) X.1 X.2.1 dX1_allows_104 (by decide) ?_
    cases h
    exact r_zret (v := 1) X S rfl dX1_allows_108
  have h := pz_f c_11 h
  rcases Decidable.em (x_1 = (4 : Int32)) with c_14 | c_14
  · have h := pz_t c_14 h
    refine lv_tableIn (off := 108) (tgt := 109) X.1 X.2.1 dX1_allows_1 (by rw [c_14]; decide +kernel) (by rw [c_14]; decide +kernel) (by rw [c_14]; decide +kernel) (by decide) ?_
    refine lv_aload_n X.1 X.2.1 dX1_allows_109 rfl (lv_at hl 0 rfl) ?_
    refine lv_iload_n X.1 X.2.1 dX1_allows_110 rfl (lv_at hl 2 rfl) ?_
    obtain ⟨q_15, eq_15, h⟩ := pz_bd_e h
    refine r_Vi X S (c_X1_hasPerson hn hi0 eq_15) gd_X1_47 ⟨rfl, ny_X1_hasPerson⟩ ⟨rfl, rfl⟩ ⟨Nat.le_of_ble_eq_true rfl, Nat.le_of_ble_eq_true rfl⟩ (r_recv X S (ly_ok_1 hi0 S.2.2.2) rfl rfl) rfl rfl hl.1 (Nat.le_of_ble_eq_true rfl) dX1_allows_111 (fun H locs S => ?_)
    obtain ⟨g_16, h⟩ := pz_gd_e h
    cases h
    exact r_zret X S (pz_zn g_16) dX1_allows_114
  have h := pz_f c_14 h
  rcases Decidable.em (x_1 = (5 : Int32)) with c_17 | c_17
  · have h := pz_t c_17 h
    refine lv_tableIn (off := 114) (tgt := 115) X.1 X.2.1 dX1_allows_1 (by rw [c_17]; decide +kernel) (by rw [c_17]; decide +kernel) (by rw [c_17]; decide +kernel) (by decide) ?_
    refine lv_iload_n X.1 X.2.1 dX1_allows_115 rfl (lv_at hl 2 rfl) ?_
    refine lv_bipush (v := -99) X.1 X.2.1 dX1_allows_116 (by decide) ?_
    refine lv_icmp_lt (tgt := 131) X.1 X.2.1 dX1_allows_118 (by decide) (fun c_18 => ?_) (fun c_18 => ?_)
    · have h := pz_t c_18 h
      refine lv_iconst (v := 0) X.1 X.2.1 dX1_allows_131 (by decide) ?_
      cases h
      exact r_zret (v := 0) X S rfl dX1_allows_132
    have h := pz_f c_18 h
    refine lv_iload_n X.1 X.2.1 dX1_allows_121 rfl (lv_at hl 2 rfl) ?_
    refine lv_bipush (v := 99) X.1 X.2.1 dX1_allows_122 (by decide) ?_
    refine lv_icmp_gt (tgt := 131) X.1 X.2.1 dX1_allows_124 (by decide) (fun c_19 => ?_) (fun c_19 => ?_)
    · have h := pz_t c_19 h
      refine lv_iconst (v := 0) X.1 X.2.1 dX1_allows_131 (by decide) ?_
      cases h
      exact r_zret (v := 0) X S rfl dX1_allows_132
    have h := pz_f c_19 h
    refine lv_iconst (v := 1) X.1 X.2.1 dX1_allows_127 (by decide) ?_
    refine lv_goto (tgt := 132) X.1 X.2.1 dX1_allows_128 (by decide) ?_
    cases h
    exact r_zret (v := 1) X S rfl dX1_allows_132
  have h := pz_f c_17 h
  rcases Decidable.em (x_1 = (6 : Int32)) with c_20 | c_20
  · have h := pz_t c_20 h
    refine lv_tableIn (off := 132) (tgt := 133) X.1 X.2.1 dX1_allows_1 (by rw [c_20]; decide +kernel) (by rw [c_20]; decide +kernel) (by rw [c_20]; decide +kernel) (by decide) ?_
    refine lv_iload_n X.1 X.2.1 dX1_allows_133 rfl (lv_at hl 2 rfl) ?_
    refine lv_iconst (v := 1) X.1 X.2.1 dX1_allows_134 (by decide) ?_
    refine lv_icmp_lt (tgt := 148) X.1 X.2.1 dX1_allows_135 (by decide) (fun c_21 => ?_) (fun c_21 => ?_)
    · have h := pz_t c_21 h
      refine lv_iconst (v := 0) X.1 X.2.1 dX1_allows_148 (by decide) ?_
      cases h
      exact r_zret (v := 0) X S rfl dX1_allows_149
    have h := pz_f c_21 h
    refine lv_iload_n X.1 X.2.1 dX1_allows_138 rfl (lv_at hl 2 rfl) ?_
    refine lv_bipush (v := 99) X.1 X.2.1 dX1_allows_139 (by decide) ?_
    refine lv_icmp_gt (tgt := 148) X.1 X.2.1 dX1_allows_141 (by decide) (fun c_22 => ?_) (fun c_22 => ?_)
    · have h := pz_t c_22 h
      refine lv_iconst (v := 0) X.1 X.2.1 dX1_allows_148 (by decide) ?_
      cases h
      exact r_zret (v := 0) X S rfl dX1_allows_149
    have h := pz_f c_22 h
    refine lv_iconst (v := 1) X.1 X.2.1 dX1_allows_144 (by decide) ?_
    refine lv_goto (tgt := 149) X.1 X.2.1 dX1_allows_145 (by decide) ?_
    cases h
    exact r_zret (v := 1) X S rfl dX1_allows_149
  have h := pz_f c_20 h
  refine lv_tableOut (tgt := 150) X.1 X.2.1 dX1_allows_1 (pz_out 0 6 [(0 : Int32), (1 : Int32), (2 : Int32), (3 : Int32), (4 : Int32), (5 : Int32), (6 : Int32)] (by decide +kernel) (by simp only [List.forall_mem_cons, List.not_mem_nil, false_imp_iff, implies_true, and_true]; exact ⟨c_2, c_5, c_8, c_11, c_14, c_17, c_20⟩)) (by decide) ?_
  refine lv_iconst (v := 0) X.1 X.2.1 dX1_allows_150 (by decide) ?_
  cases h
  exact r_zret (v := 0) X S rfl dX1_allows_151
def f_X1_valueOf (N n : Nat) (I : mm_T) (i0 : Nat) (p1 : Int32) (p2 : Int32) : Option (Int32) := pz_bd (f_X1_hasValue N n I i0 p1 p2) fun q_1 => if q_1 = 0 then (some (-2 : Int32)) else (pz_lt p1 fun x_3 => if x_3 = (0 : Int32) then (pz_gd (ix_in p2 8) <| some (I 2 (8 * i0 + p2.toNatClampNeg) 0)) else if x_3 = (1 : Int32) then (pz_gd (ix_in p2 8) <| some (I 2 (8 * i0 + p2.toNatClampNeg) 1)) else if x_3 = (2 : Int32) then (pz_gd (ix_in p2 7) <| some (I 6 (7 * i0 + p2.toNatClampNeg) 1)) else if x_3 = (3 : Int32) then (pz_gd (ix_in p2 7) <| some (I 6 (7 * i0 + p2.toNatClampNeg) 2)) else if x_3 = (4 : Int32) then (pz_gd (ix_in p2 7) <| some (I 6 (7 * i0 + p2.toNatClampNeg) 3)) else if x_3 = (5 : Int32) then (some (I 1 i0 4)) else (some (I 1 i0 5)))
set_option maxRecDepth 100000 in
set_option maxHeartbeats 4000000 in
theorem c_X1_valueOf {l : Launch} {G : cx_T} {N n : Nat} {I J : mm_T} {i0 : Nat} {p1 : Int32} {p2 : Int32} (hn : 144 ≤ n) (hi0 : i0 < 2) {z : Int32} (h : f_X1_valueOf N n I i0 p1 p2 = some z) : ct_m l G n yX1_valueOf cX1_valueOf 3 (some .int) ({ frames := 2, cells := 0, slots := 0, locals := 43 }) [.ref (cx_b G + ly_loc 1 i0), .int p1, .int p2] I J (ct_qi G n I J z) := by
  refine ct_en (by decide) (Nat.le_of_ble_eq_true rfl) ?_
  intro p e s m args below meth c ls X S hl
  have X : cx_ok G p s m args meth c cX1_valueOf 3 RX1 (some .int) := X
  have hl : lv_has ls 3 [(0, .ref (cx_b G + ly_loc 1 i0)), (1, .int p1), (2, .int p2)] := hl
  unfold f_X1_valueOf at h
  refine lv_aload_n X.1 X.2.1 dX1_valueOf_0 rfl (lv_at hl 0 rfl) ?_
  refine lv_iload_n X.1 X.2.1 dX1_valueOf_1 rfl (lv_at hl 1 rfl) ?_
  refine lv_iload_n X.1 X.2.1 dX1_valueOf_2 rfl (lv_at hl 2 rfl) ?_
  obtain ⟨q_1, eq_1, h⟩ := pz_bd_e h
  refine r_Vi X S (c_X1_hasValue hn hi0 eq_1) gd_X1_63 ⟨rfl, ny_X1_hasValue⟩ ⟨rfl, rfl⟩ ⟨Nat.le_of_ble_eq_true rfl, Nat.le_of_ble_eq_true rfl⟩ (r_recv X S (ly_ok_1 hi0 S.2.2.2) rfl rfl) rfl rfl hl.1 (Nat.le_of_ble_eq_true rfl) dX1_valueOf_3 (fun H locs S => ?_)
  refine lv_if_ne (tgt := 12) X.1 X.2.1 dX1_valueOf_6 (by decide) (fun c_2 => ?_) (fun c_2 => ?_)
  · have h := pz_f c_2 h
    refine lv_iload_n X.1 X.2.1 dX1_valueOf_12 rfl (lv_at hl 1 rfl) ?_
    refine lv_topi (fun x_3 ex_3 => ?_)
    have h := pz_lt_e h ex_3
    rcases Decidable.em (x_3 = (0 : Int32)) with c_4 | c_4
    · have h := pz_t c_4 h
      refine lv_tableIn (off := 39) (tgt := 52) X.1 X.2.1 dX1_valueOf_13 (by rw [c_4]; decide +kernel) (by rw [c_4]; decide +kernel) (by rw [c_4]; decide +kernel) (by decide) ?_
      refine lv_aload_n X.1 X.2.1 dX1_valueOf_52 rfl (lv_at hl 0 rfl) ?_
      refine gf_X1_11 X S hi0 dX1_valueOf_53 ?_
      refine lv_iload_n X.1 X.2.1 dX1_valueOf_56 rfl (lv_at hl 2 rfl) ?_
      obtain ⟨g_5, h⟩ := pz_gd_e h
      refine aa_16 X S hi0 g_5 dX1_valueOf_57 ?_
      refine gf_X1_41 X S (el_16 hi0 g_5) dX1_valueOf_58 ?_
      cases h
      exact r_iret X S dX1_valueOf_61
    have h := pz_f c_4 h
    rcases Decidable.em (x_3 = (1 : Int32)) with c_6 | c_6
    · have h := pz_t c_6 h
      refine lv_tableIn (off := 49) (tgt := 62) X.1 X.2.1 dX1_valueOf_13 (by rw [c_6]; decide +kernel) (by rw [c_6]; decide +kernel) (by rw [c_6]; decide +kernel) (by decide) ?_
      refine lv_aload_n X.1 X.2.1 dX1_valueOf_62 rfl (lv_at hl 0 rfl) ?_
      refine gf_X1_11 X S hi0 dX1_valueOf_63 ?_
      refine lv_iload_n X.1 X.2.1 dX1_valueOf_66 rfl (lv_at hl 2 rfl) ?_
      obtain ⟨g_7, h⟩ := pz_gd_e h
      refine aa_16 X S hi0 g_7 dX1_valueOf_67 ?_
      refine gf_X1_38 X S (el_16 hi0 g_7) dX1_valueOf_68 ?_
      cases h
      exact r_iret X S dX1_valueOf_71
    have h := pz_f c_6 h
    rcases Decidable.em (x_3 = (2 : Int32)) with c_8 | c_8
    · have h := pz_t c_8 h
      refine lv_tableIn (off := 59) (tgt := 72) X.1 X.2.1 dX1_valueOf_13 (by rw [c_8]; decide +kernel) (by rw [c_8]; decide +kernel) (by rw [c_8]; decide +kernel) (by decide) ?_
      refine lv_aload_n X.1 X.2.1 dX1_valueOf_72 rfl (lv_at hl 0 rfl) ?_
      refine gf_X1_19 X S hi0 dX1_valueOf_73 ?_
      refine lv_iload_n X.1 X.2.1 dX1_valueOf_76 rfl (lv_at hl 2 rfl) ?_
      obtain ⟨g_9, h⟩ := pz_gd_e h
      refine aa_17 X S hi0 g_9 dX1_valueOf_77 ?_
      refine gf_X1_54 X S (el_17 hi0 g_9) dX1_valueOf_78 ?_
      cases h
      exact r_iret X S dX1_valueOf_81
    have h := pz_f c_8 h
    rcases Decidable.em (x_3 = (3 : Int32)) with c_10 | c_10
    · have h := pz_t c_10 h
      refine lv_tableIn (off := 69) (tgt := 82) X.1 X.2.1 dX1_valueOf_13 (by rw [c_10]; decide +kernel) (by rw [c_10]; decide +kernel) (by rw [c_10]; decide +kernel) (by decide) ?_
      refine lv_aload_n X.1 X.2.1 dX1_valueOf_82 rfl (lv_at hl 0 rfl) ?_
      refine gf_X1_19 X S hi0 dX1_valueOf_83 ?_
      refine lv_iload_n X.1 X.2.1 dX1_valueOf_86 rfl (lv_at hl 2 rfl) ?_
      obtain ⟨g_11, h⟩ := pz_gd_e h
      refine aa_17 X S hi0 g_11 dX1_valueOf_87 ?_
      refine gf_X1_57 X S (el_17 hi0 g_11) dX1_valueOf_88 ?_
      cases h
      exact r_iret X S dX1_valueOf_91
    have h := pz_f c_10 h
    rcases Decidable.em (x_3 = (4 : Int32)) with c_12 | c_12
    · have h := pz_t c_12 h
      refine lv_tableIn (off := 79) (tgt := 92) X.1 X.2.1 dX1_valueOf_13 (by rw [c_12]; decide +kernel) (by rw [c_12]; decide +kernel) (by rw [c_12]; decide +kernel) (by decide) ?_
      refine lv_aload_n X.1 X.2.1 dX1_valueOf_92 rfl (lv_at hl 0 rfl) ?_
      refine gf_X1_19 X S hi0 dX1_valueOf_93 ?_
      refine lv_iload_n X.1 X.2.1 dX1_valueOf_96 rfl (lv_at hl 2 rfl) ?_
      obtain ⟨g_13, h⟩ := pz_gd_e h
      refine aa_17 X S hi0 g_13 dX1_valueOf_97 ?_
      refine gf_X1_35 X S (el_17 hi0 g_13) dX1_valueOf_98 ?_
      cases h
      exact r_iret X S dX1_valueOf_101
    have h := pz_f c_12 h
    rcases Decidable.em (x_3 = (5 : Int32)) with c_14 | c_14
    · have h := pz_t c_14 h
      refine lv_tableIn (off := 89) (tgt := 102) X.1 X.2.1 dX1_valueOf_13 (by rw [c_14]; decide +kernel) (by rw [c_14]; decide +kernel) (by rw [c_14]; decide +kernel) (by decide) ?_
      refine lv_aload_n X.1 X.2.1 dX1_valueOf_102 rfl (lv_at hl 0 rfl) ?_
      refine gf_X1_67 X S hi0 dX1_valueOf_103 ?_
      cases h
      exact r_iret X S dX1_valueOf_106
    have h := pz_f c_14 h
    refine lv_tableOut (tgt := 107) X.1 X.2.1 dX1_valueOf_13 (pz_out 0 5 [(0 : Int32), (1 : Int32), (2 : Int32), (3 : Int32), (4 : Int32), (5 : Int32)] (by decide +kernel) (by simp only [List.forall_mem_cons, List.not_mem_nil, false_imp_iff, implies_true, and_true]; exact ⟨c_4, c_6, c_8, c_10, c_12, c_14⟩)) (by decide) ?_
    refine lv_aload_n X.1 X.2.1 dX1_valueOf_107 rfl (lv_at hl 0 rfl) ?_
    refine gf_X1_23 X S hi0 dX1_valueOf_108 ?_
    cases h
    exact r_iret X S dX1_valueOf_111
  have h := pz_t c_2 h
  refine lv_bipush (v := -2) X.1 X.2.1 dX1_valueOf_9 (by decide) ?_
  cases h
  exact r_iret X S dX1_valueOf_11
def f_X1_change (N n : Nat) (I : mm_T) (i0 : Nat) (p1 : Int32) (p2 : Int32) (p3 : Int32) : Option (mm_T) := pz_bd (f_X1_hasValue N n I i0 p1 p2) fun q_1 => if q_1 = 0 then (some I) else (pz_bd (f_X1_allows N n I i0 p1 p3) fun q_3 => if q_3 = 0 then (some I) else (pz_lt p1 fun x_5 => if x_5 = (0 : Int32) then (pz_gd (ix_in p2 8) <| pz_lt (mm_up I 2 (8 * i0 + p2.toNatClampNeg) 0 p3) fun I_8 => pz_lt (mm_up I_8 1 i0 7 ((I_8 1 i0 7) + (1 : Int32))) fun I_9 => some I_9) else if x_5 = (1 : Int32) then (pz_gd (ix_in p2 8) <| pz_lt (mm_up I 2 (8 * i0 + p2.toNatClampNeg) 1 p3) fun I_12 => pz_lt (mm_up I_12 1 i0 7 ((I_12 1 i0 7) + (1 : Int32))) fun I_13 => some I_13) else if x_5 = (2 : Int32) then (pz_gd (ix_in p2 7) <| pz_lt (mm_up I 6 (7 * i0 + p2.toNatClampNeg) 1 p3) fun I_16 => pz_lt (mm_up I_16 1 i0 7 ((I_16 1 i0 7) + (1 : Int32))) fun I_17 => some I_17) else if x_5 = (3 : Int32) then (pz_gd (ix_in p2 7) <| pz_lt (mm_up I 6 (7 * i0 + p2.toNatClampNeg) 2 p3) fun I_20 => pz_lt (mm_up I_20 1 i0 7 ((I_20 1 i0 7) + (1 : Int32))) fun I_21 => some I_21) else if x_5 = (4 : Int32) then (pz_gd (ix_in p2 7) <| pz_lt (mm_up I 6 (7 * i0 + p2.toNatClampNeg) 3 p3) fun I_24 => pz_lt (mm_up I_24 1 i0 7 ((I_24 1 i0 7) + (1 : Int32))) fun I_25 => some I_25) else if x_5 = (5 : Int32) then (pz_lt (mm_up I 1 i0 4 p3) fun I_27 => pz_lt (mm_up I_27 1 i0 7 ((I_27 1 i0 7) + (1 : Int32))) fun I_28 => some I_28) else (pz_lt (mm_up I 1 i0 5 p3) fun I_29 => pz_lt (mm_up I_29 1 i0 7 ((I_29 1 i0 7) + (1 : Int32))) fun I_30 => some I_30)))
set_option maxRecDepth 100000 in
set_option maxHeartbeats 4000000 in
theorem c_X1_change {l : Launch} {G : cx_T} {N n : Nat} {I J : mm_T} {i0 : Nat} {p1 : Int32} {p2 : Int32} {p3 : Int32} (hn : 144 ≤ n) (hi0 : i0 < 2) {z : mm_T} (h : f_X1_change N n I i0 p1 p2 p3 = some z) : ct_m l G n yX1_change cX1_change 4 none ({ frames := 2, cells := 0, slots := 0, locals := 43 }) [.ref (cx_b G + ly_loc 1 i0), .int p1, .int p2, .int p3] I J (ct_qv G n z J) := by
  refine ct_en (by decide) (Nat.le_of_ble_eq_true rfl) ?_
  intro p e s m args below meth c ls X S hl
  have X : cx_ok G p s m args meth c cX1_change 4 RX1 none := X
  have hl : lv_has ls 4 [(0, .ref (cx_b G + ly_loc 1 i0)), (1, .int p1), (2, .int p2), (3, .int p3)] := hl
  unfold f_X1_change at h
  refine lv_aload_n X.1 X.2.1 dX1_change_0 rfl (lv_at hl 0 rfl) ?_
  refine lv_iload_n X.1 X.2.1 dX1_change_1 rfl (lv_at hl 1 rfl) ?_
  refine lv_iload_n X.1 X.2.1 dX1_change_2 rfl (lv_at hl 2 rfl) ?_
  obtain ⟨q_1, eq_1, h⟩ := pz_bd_e h
  refine r_Vi X S (c_X1_hasValue hn hi0 eq_1) gd_X1_63 ⟨rfl, ny_X1_hasValue⟩ ⟨rfl, rfl⟩ ⟨Nat.le_of_ble_eq_true rfl, Nat.le_of_ble_eq_true rfl⟩ (r_recv X S (ly_ok_1 hi0 S.2.2.2) rfl rfl) rfl rfl hl.1 (Nat.le_of_ble_eq_true rfl) dX1_change_3 (fun H locs S => ?_)
  refine lv_if_eq (tgt := 18) X.1 X.2.1 dX1_change_6 (by decide) (fun c_2 => ?_) (fun c_2 => ?_)
  · have h := pz_t c_2 h
    cases h
    exact r_vret X S dX1_change_18
  have h := pz_f c_2 h
  refine lv_aload_n X.1 X.2.1 dX1_change_9 rfl (lv_at hl 0 rfl) ?_
  refine lv_iload_n X.1 X.2.1 dX1_change_10 rfl (lv_at hl 1 rfl) ?_
  refine lv_iload_n X.1 X.2.1 dX1_change_11 rfl (lv_at hl 3 rfl) ?_
  obtain ⟨q_3, eq_3, h⟩ := pz_bd_e h
  refine r_Vi X S (c_X1_allows hn hi0 eq_3) gd_X1_70 ⟨rfl, ny_X1_allows⟩ ⟨rfl, rfl⟩ ⟨Nat.le_of_ble_eq_true rfl, Nat.le_of_ble_eq_true rfl⟩ (r_recv X S (ly_ok_1 hi0 S.2.2.2) rfl rfl) rfl rfl hl.1 (Nat.le_of_ble_eq_true rfl) dX1_change_12 (fun H locs S => ?_)
  refine lv_if_ne (tgt := 19) X.1 X.2.1 dX1_change_15 (by decide) (fun c_4 => ?_) (fun c_4 => ?_)
  · have h := pz_f c_4 h
    refine lv_iload_n X.1 X.2.1 dX1_change_19 rfl (lv_at hl 1 rfl) ?_
    refine lv_topi (fun x_5 ex_5 => ?_)
    have h := pz_lt_e h ex_5
    rcases Decidable.em (x_5 = (0 : Int32)) with c_6 | c_6
    · have h := pz_t c_6 h
      refine lv_tableIn (off := 40) (tgt := 60) X.1 X.2.1 dX1_change_20 (by rw [c_6]; decide +kernel) (by rw [c_6]; decide +kernel) (by rw [c_6]; decide +kernel) (by decide) ?_
      refine lv_aload_n X.1 X.2.1 dX1_change_60 rfl (lv_at hl 0 rfl) ?_
      refine gf_X1_11 X S hi0 dX1_change_61 ?_
      refine lv_iload_n X.1 X.2.1 dX1_change_64 rfl (lv_at hl 2 rfl) ?_
      obtain ⟨g_7, h⟩ := pz_gd_e h
      refine aa_16 X S hi0 g_7 dX1_change_65 ?_
      refine lv_iload_n X.1 X.2.1 dX1_change_66 rfl (lv_at hl 3 rfl) ?_
      refine pf_X1_41 X S (el_16 hi0 g_7) dX1_change_67 (fun I_8 H locs eI_8 S => ?_)
      have h := pz_lt_e h eI_8
      refine lv_goto (tgt := 138) X.1 X.2.1 dX1_change_70 (by decide) ?_
      refine lv_aload_n X.1 X.2.1 dX1_change_138 rfl (lv_at hl 0 rfl) ?_
      refine lv_dup X.1 X.2.1 dX1_change_139 rfl ?_
      refine gf_X1_44 X S hi0 dX1_change_140 ?_
      refine lv_iconst (v := 1) X.1 X.2.1 dX1_change_143 (by decide) ?_
      refine lv_iadd X.1 X.2.1 dX1_change_144 ?_
      refine pf_X1_44 X S hi0 dX1_change_145 (fun I_9 H locs eI_9 S => ?_)
      have h := pz_lt_e h eI_9
      cases h
      exact r_vret X S dX1_change_148
    have h := pz_f c_6 h
    rcases Decidable.em (x_5 = (1 : Int32)) with c_10 | c_10
    · have h := pz_t c_10 h
      refine lv_tableIn (off := 53) (tgt := 73) X.1 X.2.1 dX1_change_20 (by rw [c_10]; decide +kernel) (by rw [c_10]; decide +kernel) (by rw [c_10]; decide +kernel) (by decide) ?_
      refine lv_aload_n X.1 X.2.1 dX1_change_73 rfl (lv_at hl 0 rfl) ?_
      refine gf_X1_11 X S hi0 dX1_change_74 ?_
      refine lv_iload_n X.1 X.2.1 dX1_change_77 rfl (lv_at hl 2 rfl) ?_
      obtain ⟨g_11, h⟩ := pz_gd_e h
      refine aa_16 X S hi0 g_11 dX1_change_78 ?_
      refine lv_iload_n X.1 X.2.1 dX1_change_79 rfl (lv_at hl 3 rfl) ?_
      refine pf_X1_38 X S (el_16 hi0 g_11) dX1_change_80 (fun I_12 H locs eI_12 S => ?_)
      have h := pz_lt_e h eI_12
      refine lv_goto (tgt := 138) X.1 X.2.1 dX1_change_83 (by decide) ?_
      refine lv_aload_n X.1 X.2.1 dX1_change_138 rfl (lv_at hl 0 rfl) ?_
      refine lv_dup X.1 X.2.1 dX1_change_139 rfl ?_
      refine gf_X1_44 X S hi0 dX1_change_140 ?_
      refine lv_iconst (v := 1) X.1 X.2.1 dX1_change_143 (by decide) ?_
      refine lv_iadd X.1 X.2.1 dX1_change_144 ?_
      refine pf_X1_44 X S hi0 dX1_change_145 (fun I_13 H locs eI_13 S => ?_)
      have h := pz_lt_e h eI_13
      cases h
      exact r_vret X S dX1_change_148
    have h := pz_f c_10 h
    rcases Decidable.em (x_5 = (2 : Int32)) with c_14 | c_14
    · have h := pz_t c_14 h
      refine lv_tableIn (off := 66) (tgt := 86) X.1 X.2.1 dX1_change_20 (by rw [c_14]; decide +kernel) (by rw [c_14]; decide +kernel) (by rw [c_14]; decide +kernel) (by decide) ?_
      refine lv_aload_n X.1 X.2.1 dX1_change_86 rfl (lv_at hl 0 rfl) ?_
      refine gf_X1_19 X S hi0 dX1_change_87 ?_
      refine lv_iload_n X.1 X.2.1 dX1_change_90 rfl (lv_at hl 2 rfl) ?_
      obtain ⟨g_15, h⟩ := pz_gd_e h
      refine aa_17 X S hi0 g_15 dX1_change_91 ?_
      refine lv_iload_n X.1 X.2.1 dX1_change_92 rfl (lv_at hl 3 rfl) ?_
      refine pf_X1_54 X S (el_17 hi0 g_15) dX1_change_93 (fun I_16 H locs eI_16 S => ?_)
      have h := pz_lt_e h eI_16
      refine lv_goto (tgt := 138) X.1 X.2.1 dX1_change_96 (by decide) ?_
      refine lv_aload_n X.1 X.2.1 dX1_change_138 rfl (lv_at hl 0 rfl) ?_
      refine lv_dup X.1 X.2.1 dX1_change_139 rfl ?_
      refine gf_X1_44 X S hi0 dX1_change_140 ?_
      refine lv_iconst (v := 1) X.1 X.2.1 dX1_change_143 (by decide) ?_
      refine lv_iadd X.1 X.2.1 dX1_change_144 ?_
      refine pf_X1_44 X S hi0 dX1_change_145 (fun I_17 H locs eI_17 S => ?_)
      have h := pz_lt_e h eI_17
      cases h
      exact r_vret X S dX1_change_148
    have h := pz_f c_14 h
    rcases Decidable.em (x_5 = (3 : Int32)) with c_18 | c_18
    · have h := pz_t c_18 h
      refine lv_tableIn (off := 79) (tgt := 99) X.1 X.2.1 dX1_change_20 (by rw [c_18]; decide +kernel) (by rw [c_18]; decide +kernel) (by rw [c_18]; decide +kernel) (by decide) ?_
      refine lv_aload_n X.1 X.2.1 dX1_change_99 rfl (lv_at hl 0 rfl) ?_
      refine gf_X1_19 X S hi0 dX1_change_100 ?_
      refine lv_iload_n X.1 X.2.1 dX1_change_103 rfl (lv_at hl 2 rfl) ?_
      obtain ⟨g_19, h⟩ := pz_gd_e h
      refine aa_17 X S hi0 g_19 dX1_change_104 ?_
      refine lv_iload_n X.1 X.2.1 dX1_change_105 rfl (lv_at hl 3 rfl) ?_
      refine pf_X1_57 X S (el_17 hi0 g_19) dX1_change_106 (fun I_20 H locs eI_20 S => ?_)
      have h := pz_lt_e h eI_20
      refine lv_goto (tgt := 138) X.1 X.2.1 dX1_change_109 (by decide) ?_
      refine lv_aload_n X.1 X.2.1 dX1_change_138 rfl (lv_at hl 0 rfl) ?_
      refine lv_dup X.1 X.2.1 dX1_change_139 rfl ?_
      refine gf_X1_44 X S hi0 dX1_change_140 ?_
      refine lv_iconst (v := 1) X.1 X.2.1 dX1_change_143 (by decide) ?_
      refine lv_iadd X.1 X.2.1 dX1_change_144 ?_
      refine pf_X1_44 X S hi0 dX1_change_145 (fun I_21 H locs eI_21 S => ?_)
      have h := pz_lt_e h eI_21
      cases h
      exact r_vret X S dX1_change_148
    have h := pz_f c_18 h
    rcases Decidable.em (x_5 = (4 : Int32)) with c_22 | c_22
    · have h := pz_t c_22 h
      refine lv_tableIn (off := 92) (tgt := 112) X.1 X.2.1 dX1_change_20 (by rw [c_22]; decide +kernel) (by rw [c_22]; decide +kernel) (by rw [c_22]; decide +kernel) (by decide) ?_
      refine lv_aload_n X.1 X.2.1 dX1_change_112 rfl (lv_at hl 0 rfl) ?_
      refine gf_X1_19 X S hi0 dX1_change_113 ?_
      refine lv_iload_n X.1 X.2.1 dX1_change_116 rfl (lv_at hl 2 rfl) ?_
      obtain ⟨g_23, h⟩ := pz_gd_e h
      refine aa_17 X S hi0 g_23 dX1_change_117 ?_
      refine lv_iload_n X.1 X.2.1 dX1_change_118 rfl (lv_at hl 3 rfl) ?_
      refine pf_X1_35 X S (el_17 hi0 g_23) dX1_change_119 (fun I_24 H locs eI_24 S => ?_)
      have h := pz_lt_e h eI_24
      refine lv_goto (tgt := 138) X.1 X.2.1 dX1_change_122 (by decide) ?_
      refine lv_aload_n X.1 X.2.1 dX1_change_138 rfl (lv_at hl 0 rfl) ?_
      refine lv_dup X.1 X.2.1 dX1_change_139 rfl ?_
      refine gf_X1_44 X S hi0 dX1_change_140 ?_
      refine lv_iconst (v := 1) X.1 X.2.1 dX1_change_143 (by decide) ?_
      refine lv_iadd X.1 X.2.1 dX1_change_144 ?_
      refine pf_X1_44 X S hi0 dX1_change_145 (fun I_25 H locs eI_25 S => ?_)
      have h := pz_lt_e h eI_25
      cases h
      exact r_vret X S dX1_change_148
    have h := pz_f c_22 h
    rcases Decidable.em (x_5 = (5 : Int32)) with c_26 | c_26
    · have h := pz_t c_26 h
      refine lv_tableIn (off := 105) (tgt := 125) X.1 X.2.1 dX1_change_20 (by rw [c_26]; decide +kernel) (by rw [c_26]; decide +kernel) (by rw [c_26]; decide +kernel) (by decide) ?_
      refine lv_aload_n X.1 X.2.1 dX1_change_125 rfl (lv_at hl 0 rfl) ?_
      refine lv_iload_n X.1 X.2.1 dX1_change_126 rfl (lv_at hl 3 rfl) ?_
      refine pf_X1_67 X S hi0 dX1_change_127 (fun I_27 H locs eI_27 S => ?_)
      have h := pz_lt_e h eI_27
      refine lv_goto (tgt := 138) X.1 X.2.1 dX1_change_130 (by decide) ?_
      refine lv_aload_n X.1 X.2.1 dX1_change_138 rfl (lv_at hl 0 rfl) ?_
      refine lv_dup X.1 X.2.1 dX1_change_139 rfl ?_
      refine gf_X1_44 X S hi0 dX1_change_140 ?_
      refine lv_iconst (v := 1) X.1 X.2.1 dX1_change_143 (by decide) ?_
      refine lv_iadd X.1 X.2.1 dX1_change_144 ?_
      refine pf_X1_44 X S hi0 dX1_change_145 (fun I_28 H locs eI_28 S => ?_)
      have h := pz_lt_e h eI_28
      cases h
      exact r_vret X S dX1_change_148
    have h := pz_f c_26 h
    refine lv_tableOut (tgt := 133) X.1 X.2.1 dX1_change_20 (pz_out 0 5 [(0 : Int32), (1 : Int32), (2 : Int32), (3 : Int32), (4 : Int32), (5 : Int32)] (by decide +kernel) (by simp only [List.forall_mem_cons, List.not_mem_nil, false_imp_iff, implies_true, and_true]; exact ⟨c_6, c_10, c_14, c_18, c_22, c_26⟩)) (by decide) ?_
    refine lv_aload_n X.1 X.2.1 dX1_change_133 rfl (lv_at hl 0 rfl) ?_
    refine lv_iload_n X.1 X.2.1 dX1_change_134 rfl (lv_at hl 3 rfl) ?_
    refine pf_X1_23 X S hi0 dX1_change_135 (fun I_29 H locs eI_29 S => ?_)
    have h := pz_lt_e h eI_29
    refine lv_aload_n X.1 X.2.1 dX1_change_138 rfl (lv_at hl 0 rfl) ?_
    refine lv_dup X.1 X.2.1 dX1_change_139 rfl ?_
    refine gf_X1_44 X S hi0 dX1_change_140 ?_
    refine lv_iconst (v := 1) X.1 X.2.1 dX1_change_143 (by decide) ?_
    refine lv_iadd X.1 X.2.1 dX1_change_144 ?_
    refine pf_X1_44 X S hi0 dX1_change_145 (fun I_30 H locs eI_30 S => ?_)
    have h := pz_lt_e h eI_30
    cases h
    exact r_vret X S dX1_change_148
  have h := pz_t c_4 h
  cases h
  exact r_vret X S dX1_change_18
def f_X1_follow (N n : Nat) (I : mm_T) (i0 : Nat) (p1 : Int32) : Option (mm_T) := pz_lt (mm_up I 1 i0 6 p1) fun I_1 => pz_lt (mm_up I_1 1 i0 7 ((I_1 1 i0 7) + (1 : Int32))) fun I_2 => some I_2
set_option maxRecDepth 100000 in
set_option maxHeartbeats 4000000 in
theorem c_X1_follow {l : Launch} {G : cx_T} {N n : Nat} {I J : mm_T} {i0 : Nat} {p1 : Int32} (hn : 144 ≤ n) (hi0 : i0 < 2) {z : mm_T} (h : f_X1_follow N n I i0 p1 = some z) : ct_m l G n yX1_follow cX1_follow 2 none ({ frames := 0, cells := 0, slots := 0, locals := 0 }) [.ref (cx_b G + ly_loc 1 i0), .int p1] I J (ct_qv G n z J) := by
  refine ct_en (by decide) (Nat.le_of_ble_eq_true rfl) ?_
  intro p e s m args below meth c ls X S hl
  have X : cx_ok G p s m args meth c cX1_follow 2 RX1 none := X
  have hl : lv_has ls 2 [(0, .ref (cx_b G + ly_loc 1 i0)), (1, .int p1)] := hl
  unfold f_X1_follow at h
  refine lv_aload_n X.1 X.2.1 dX1_follow_0 rfl (lv_at hl 0 rfl) ?_
  refine lv_iload_n X.1 X.2.1 dX1_follow_1 rfl (lv_at hl 1 rfl) ?_
  refine pf_X1_73 X S hi0 dX1_follow_2 (fun I_1 H locs eI_1 S => ?_)
  have h := pz_lt_e h eI_1
  refine lv_aload_n X.1 X.2.1 dX1_follow_5 rfl (lv_at hl 0 rfl) ?_
  refine lv_dup X.1 X.2.1 dX1_follow_6 rfl ?_
  refine gf_X1_44 X S hi0 dX1_follow_7 ?_
  refine lv_iconst (v := 1) X.1 X.2.1 dX1_follow_10 (by decide) ?_
  refine lv_iadd X.1 X.2.1 dX1_follow_11 ?_
  refine pf_X1_44 X S hi0 dX1_follow_12 (fun I_2 H locs eI_2 S => ?_)
  have h := pz_lt_e h eI_2
  cases h
  exact r_vret X S dX1_follow_15
def f_X2_become (N n : Nat) (I : mm_T) (i0 : Nat) (i1 : Nat) : Option (mm_T) := pz_lt (mm_up I 2 i0 0 (I 2 i1 0)) fun I_1 => pz_lt (mm_up I_1 2 i0 1 (I_1 2 i1 1)) fun I_2 => some I_2
set_option maxRecDepth 100000 in
set_option maxHeartbeats 4000000 in
theorem c_X2_become {l : Launch} {G : cx_T} {N n : Nat} {I J : mm_T} {i0 : Nat} {i1 : Nat} (hn : 144 ≤ n) (hi0 : i0 < 16) (hi1 : i1 < 16) {z : mm_T} (h : f_X2_become N n I i0 i1 = some z) : ct_m l G n yX2_become cX2_become 2 none ({ frames := 0, cells := 0, slots := 0, locals := 0 }) [.ref (cx_b G + ly_loc 2 i0), .ref (cx_b G + ly_loc 2 i1)] I J (ct_qv G n z J) := by
  refine ct_en (by decide) (Nat.le_of_ble_eq_true rfl) ?_
  intro p e s m args below meth c ls X S hl
  have X : cx_ok G p s m args meth c cX2_become 2 RX2 none := X
  have hl : lv_has ls 2 [(0, .ref (cx_b G + ly_loc 2 i0)), (1, .ref (cx_b G + ly_loc 2 i1))] := hl
  unfold f_X2_become at h
  refine lv_aload_n X.1 X.2.1 dX2_become_0 rfl (lv_at hl 0 rfl) ?_
  refine lv_aload_n X.1 X.2.1 dX2_become_1 rfl (lv_at hl 1 rfl) ?_
  refine gf_X2_7 X S hi1 dX2_become_2 ?_
  refine pf_X2_7 X S hi0 dX2_become_5 (fun I_1 H locs eI_1 S => ?_)
  have h := pz_lt_e h eI_1
  refine lv_aload_n X.1 X.2.1 dX2_become_8 rfl (lv_at hl 0 rfl) ?_
  refine lv_aload_n X.1 X.2.1 dX2_become_9 rfl (lv_at hl 1 rfl) ?_
  refine gf_X2_13 X S hi1 dX2_become_10 ?_
  refine pf_X2_13 X S hi0 dX2_become_13 (fun I_2 H locs eI_2 S => ?_)
  have h := pz_lt_e h eI_2
  cases h
  exact r_vret X S dX2_become_16
def f_X6_become (N n : Nat) (I : mm_T) (i0 : Nat) (i1 : Nat) : Option (mm_T) := pz_lt (mm_up I 6 i0 0 (I 6 i1 0)) fun I_1 => pz_lt (mm_up I_1 6 i0 1 (I_1 6 i1 1)) fun I_2 => pz_lt (mm_up I_2 6 i0 2 (I_2 6 i1 2)) fun I_3 => pz_lt (mm_up I_3 6 i0 3 (I_3 6 i1 3)) fun I_4 => some I_4
set_option maxRecDepth 100000 in
set_option maxHeartbeats 4000000 in
theorem c_X6_become {l : Launch} {G : cx_T} {N n : Nat} {I J : mm_T} {i0 : Nat} {i1 : Nat} (hn : 144 ≤ n) (hi0 : i0 < 14) (hi1 : i1 < 14) {z : mm_T} (h : f_X6_become N n I i0 i1 = some z) : ct_m l G n yX6_become cX6_become 2 none ({ frames := 0, cells := 0, slots := 0, locals := 0 }) [.ref (cx_b G + ly_loc 6 i0), .ref (cx_b G + ly_loc 6 i1)] I J (ct_qv G n z J) := by
  refine ct_en (by decide) (Nat.le_of_ble_eq_true rfl) ?_
  intro p e s m args below meth c ls X S hl
  have X : cx_ok G p s m args meth c cX6_become 2 RX6 none := X
  have hl : lv_has ls 2 [(0, .ref (cx_b G + ly_loc 6 i0)), (1, .ref (cx_b G + ly_loc 6 i1))] := hl
  unfold f_X6_become at h
  refine lv_aload_n X.1 X.2.1 dX6_become_0 rfl (lv_at hl 0 rfl) ?_
  refine lv_aload_n X.1 X.2.1 dX6_become_1 rfl (lv_at hl 1 rfl) ?_
  refine gf_X6_9 X S hi1 dX6_become_2 ?_
  refine pf_X6_9 X S hi0 dX6_become_5 (fun I_1 H locs eI_1 S => ?_)
  have h := pz_lt_e h eI_1
  refine lv_aload_n X.1 X.2.1 dX6_become_8 rfl (lv_at hl 0 rfl) ?_
  refine lv_aload_n X.1 X.2.1 dX6_become_9 rfl (lv_at hl 1 rfl) ?_
  refine gf_X6_15 X S hi1 dX6_become_10 ?_
  refine pf_X6_15 X S hi0 dX6_become_13 (fun I_2 H locs eI_2 S => ?_)
  have h := pz_lt_e h eI_2
  refine lv_aload_n X.1 X.2.1 dX6_become_16 rfl (lv_at hl 0 rfl) ?_
  refine lv_aload_n X.1 X.2.1 dX6_become_17 rfl (lv_at hl 1 rfl) ?_
  refine gf_X6_18 X S hi1 dX6_become_18 ?_
  refine pf_X6_18 X S hi0 dX6_become_21 (fun I_3 H locs eI_3 S => ?_)
  have h := pz_lt_e h eI_3
  refine lv_aload_n X.1 X.2.1 dX6_become_24 rfl (lv_at hl 0 rfl) ?_
  refine lv_aload_n X.1 X.2.1 dX6_become_25 rfl (lv_at hl 1 rfl) ?_
  refine gf_X6_21 X S hi1 dX6_become_26 ?_
  refine pf_X6_21 X S hi0 dX6_become_29 (fun I_4 H locs eI_4 S => ?_)
  have h := pz_lt_e h eI_4
  cases h
  exact r_vret X S dX6_become_32
def f_X1_become_L31 (N n : Nat) (i0 : Nat) (i1 : Nat) : Nat → mm_T → Int32 → Option (mm_T)
  | 0, _, _ => none
  | cnt + 1, I, a2 => if (7 : Int32) ≤ a2 then (pz_lt (mm_up I 1 i0 2 (I 1 i1 2)) fun I_7 => pz_lt (mm_up I_7 1 i0 3 (I_7 1 i1 3)) fun I_8 => pz_lt (mm_up I_8 1 i0 4 (I_8 1 i1 4)) fun I_9 => pz_lt (mm_up I_9 1 i0 5 (I_9 1 i1 5)) fun I_10 => pz_lt (mm_up I_10 1 i0 6 (I_10 1 i1 6)) fun I_11 => pz_lt (mm_up I_11 1 i0 7 ((I_11 1 i0 7) + (1 : Int32))) fun I_12 => some I_12) else (pz_gd (ix_in a2 7) <| pz_gd (ix_in a2 7) <| pz_bd (f_X6_become N n I (7 * i0 + a2.toNatClampNeg) (7 * i1 + a2.toNatClampNeg)) fun q_15 => pz_lt (a2 + (1 : Int32)) fun x_16 => f_X1_become_L31 N n i0 i1 cnt q_15 x_16)
set_option maxRecDepth 100000 in
set_option maxHeartbeats 4000000 in
theorem w_X1_become_L31 {l : Launch} {G : cx_T} {p : Program} {e : Env} {s : State} {m : MethodId} {args : Array Value} {below : List Frame} {meth : Method} {c : Code} {N n : Nat} {J : mm_T} {i0 : Nat} {i1 : Nat} (X : cx_ok G p s m args meth c cX1_become 3 RX1 none) (hn : 144 ≤ n) (hi0 : i0 < 2) (hi1 : i1 < 2) {z : mm_T} : ∀ (cnt : Nat) {I : mm_T} {a2 : Int32} {H : Heap} {locs : List Loc} {ls : Array Slot} , f_X1_become_L31 N n i0 i1 cnt I a2 = some z → st_ok G n I J s H locs → lv_has ls 3 [(0, .ref (cx_b G + ly_loc 1 i0)), (1, .ref (cx_b G + ly_loc 1 i1)), (2, .int a2)] → W p l e ({ frames := 1, cells := 0, slots := 0, locals := 21 }) s m args below meth c H locs 0 0 (MQ below (ct_qv G n z J) args s 0 0 (cx_A G)) (F0 m 31 ls []) := by
  intro cnt
  induction cnt with
  | zero =>
    intro I a2 H locs ls h
    rw [f_X1_become_L31] at h
    cases h
  | succ cnt ih =>
    intro I a2 H locs ls h S hl
    rw [f_X1_become_L31] at h
    refine lv_iload_n X.1 X.2.1 dX1_become_31 rfl (lv_at hl 2 rfl) ?_
    refine lv_bipush (v := 7) X.1 X.2.1 dX1_become_32 (by decide) ?_
    refine lv_icmp_ge (tgt := 58) X.1 X.2.1 dX1_become_34 (by decide) (fun c_6 => ?_) (fun c_6 => ?_)
    · have h := pz_t c_6 h
      refine lv_aload_n X.1 X.2.1 dX1_become_58 rfl (lv_at hl 0 rfl) ?_
      refine lv_aload_n X.1 X.2.1 dX1_become_59 rfl (lv_at hl 1 rfl) ?_
      refine gf_X1_29 X S hi1 dX1_become_60 ?_
      refine pf_X1_29 X S hi0 dX1_become_63 (fun I_7 H locs eI_7 S => ?_)
      have h := pz_lt_e h eI_7
      refine lv_aload_n X.1 X.2.1 dX1_become_66 rfl (lv_at hl 0 rfl) ?_
      refine lv_aload_n X.1 X.2.1 dX1_become_67 rfl (lv_at hl 1 rfl) ?_
      refine gf_X1_32 X S hi1 dX1_become_68 ?_
      refine pf_X1_32 X S hi0 dX1_become_71 (fun I_8 H locs eI_8 S => ?_)
      have h := pz_lt_e h eI_8
      refine lv_aload_n X.1 X.2.1 dX1_become_74 rfl (lv_at hl 0 rfl) ?_
      refine lv_aload_n X.1 X.2.1 dX1_become_75 rfl (lv_at hl 1 rfl) ?_
      refine gf_X1_67 X S hi1 dX1_become_76 ?_
      refine pf_X1_67 X S hi0 dX1_become_79 (fun I_9 H locs eI_9 S => ?_)
      have h := pz_lt_e h eI_9
      refine lv_aload_n X.1 X.2.1 dX1_become_82 rfl (lv_at hl 0 rfl) ?_
      refine lv_aload_n X.1 X.2.1 dX1_become_83 rfl (lv_at hl 1 rfl) ?_
      refine gf_X1_23 X S hi1 dX1_become_84 ?_
      refine pf_X1_23 X S hi0 dX1_become_87 (fun I_10 H locs eI_10 S => ?_)
      have h := pz_lt_e h eI_10
      refine lv_aload_n X.1 X.2.1 dX1_become_90 rfl (lv_at hl 0 rfl) ?_
      refine lv_aload_n X.1 X.2.1 dX1_become_91 rfl (lv_at hl 1 rfl) ?_
      refine gf_X1_73 X S hi1 dX1_become_92 ?_
      refine pf_X1_73 X S hi0 dX1_become_95 (fun I_11 H locs eI_11 S => ?_)
      have h := pz_lt_e h eI_11
      refine lv_aload_n X.1 X.2.1 dX1_become_98 rfl (lv_at hl 0 rfl) ?_
      refine lv_dup X.1 X.2.1 dX1_become_99 rfl ?_
      refine gf_X1_44 X S hi0 dX1_become_100 ?_
      refine lv_iconst (v := 1) X.1 X.2.1 dX1_become_103 (by decide) ?_
      refine lv_iadd X.1 X.2.1 dX1_become_104 ?_
      refine pf_X1_44 X S hi0 dX1_become_105 (fun I_12 H locs eI_12 S => ?_)
      have h := pz_lt_e h eI_12
      cases h
      exact r_vret X S dX1_become_108
    have h := pz_f c_6 h
    refine lv_aload_n X.1 X.2.1 dX1_become_37 rfl (lv_at hl 0 rfl) ?_
    refine gf_X1_19 X S hi0 dX1_become_38 ?_
    refine lv_iload_n X.1 X.2.1 dX1_become_41 rfl (lv_at hl 2 rfl) ?_
    obtain ⟨g_13, h⟩ := pz_gd_e h
    refine aa_17 X S hi0 g_13 dX1_become_42 ?_
    refine lv_aload_n X.1 X.2.1 dX1_become_43 rfl (lv_at hl 1 rfl) ?_
    refine gf_X1_19 X S hi1 dX1_become_44 ?_
    refine lv_iload_n X.1 X.2.1 dX1_become_47 rfl (lv_at hl 2 rfl) ?_
    obtain ⟨g_14, h⟩ := pz_gd_e h
    refine aa_17 X S hi1 g_14 dX1_become_48 ?_
    obtain ⟨q_15, eq_15, h⟩ := pz_bd_e h
    refine r_Vv X S (c_X6_become hn (el_17 hi0 g_13) (el_17 hi1 g_14) eq_15) gd_X1_80 ⟨rfl, ny_X6_become⟩ ⟨rfl, rfl⟩ ⟨Nat.le_of_ble_eq_true rfl, Nat.le_of_ble_eq_true rfl⟩ (r_recv X S (ly_ok_6 (el_17 hi0 g_13) S.2.2.2) rfl rfl) rfl rfl hl.1 (Nat.le_of_ble_eq_true rfl) dX1_become_49 (fun H locs S => ?_)
    obtain ⟨x_16, ex_16⟩ : ∃ y : Int32, y = (a2 + (1 : Int32)) := ⟨_, rfl⟩
    have h := pz_lt_e h ex_16
    refine lv_iinc (v := x_16) (lv' := [(2, .int x_16), (0, .ref (cx_b G + ly_loc 1 i0)), (1, .ref (cx_b G + ly_loc 1 i1))]) X.1 X.2.1 dX1_become_52 hl (k := 2) rfl (by rw [ex_16]; rfl) (by decide) rfl (fun ls hl => ?_)
    refine lv_goto (tgt := 31) X.1 X.2.1 dX1_become_55 (by decide) ?_
    exact ih h S (lv_sub hl [1, 2, 0] rfl)
def f_X1_become_L2 (N n : Nat) (i0 : Nat) (i1 : Nat) : Nat → mm_T → Int32 → Option (mm_T)
  | 0, _, _ => none
  | cnt + 1, I, a2 => if (8 : Int32) ≤ a2 then (f_X1_become_L31 N n i0 i1 N I (0 : Int32)) else (pz_gd (ix_in a2 8) <| pz_gd (ix_in a2 8) <| pz_bd (f_X2_become N n I (8 * i0 + a2.toNatClampNeg) (8 * i1 + a2.toNatClampNeg)) fun q_4 => pz_lt (a2 + (1 : Int32)) fun x_5 => f_X1_become_L2 N n i0 i1 cnt q_4 x_5)
set_option maxRecDepth 100000 in
set_option maxHeartbeats 4000000 in
theorem w_X1_become_L2 {l : Launch} {G : cx_T} {p : Program} {e : Env} {s : State} {m : MethodId} {args : Array Value} {below : List Frame} {meth : Method} {c : Code} {N n : Nat} {J : mm_T} {i0 : Nat} {i1 : Nat} (X : cx_ok G p s m args meth c cX1_become 3 RX1 none) (hn : 144 ≤ n) (hi0 : i0 < 2) (hi1 : i1 < 2) {z : mm_T} : ∀ (cnt : Nat) {I : mm_T} {a2 : Int32} {H : Heap} {locs : List Loc} {ls : Array Slot} , f_X1_become_L2 N n i0 i1 cnt I a2 = some z → st_ok G n I J s H locs → lv_has ls 3 [(0, .ref (cx_b G + ly_loc 1 i0)), (1, .ref (cx_b G + ly_loc 1 i1)), (2, .int a2)] → W p l e ({ frames := 1, cells := 0, slots := 0, locals := 21 }) s m args below meth c H locs 0 0 (MQ below (ct_qv G n z J) args s 0 0 (cx_A G)) (F0 m 2 ls []) := by
  intro cnt
  induction cnt with
  | zero =>
    intro I a2 H locs ls h
    rw [f_X1_become_L2] at h
    cases h
  | succ cnt ih =>
    intro I a2 H locs ls h S hl
    rw [f_X1_become_L2] at h
    refine lv_iload_n X.1 X.2.1 dX1_become_2 rfl (lv_at hl 2 rfl) ?_
    refine lv_bipush (v := 8) X.1 X.2.1 dX1_become_3 (by decide) ?_
    refine lv_icmp_ge (tgt := 29) X.1 X.2.1 dX1_become_5 (by decide) (fun c_1 => ?_) (fun c_1 => ?_)
    · have h := pz_t c_1 h
      refine lv_iconst (v := 0) X.1 X.2.1 dX1_become_29 (by decide) ?_
      refine lv_istore_n (lv' := [(2, .int (0 : Int32)), (0, .ref (cx_b G + ly_loc 1 i0)), (1, .ref (cx_b G + ly_loc 1 i1))]) X.1 X.2.1 dX1_become_30 rfl hl (by decide) rfl (fun ls hl => ?_)
      exact w_X1_become_L31 X hn hi0 hi1 N h S (lv_sub hl [1, 2, 0] rfl)
    have h := pz_f c_1 h
    refine lv_aload_n X.1 X.2.1 dX1_become_8 rfl (lv_at hl 0 rfl) ?_
    refine gf_X1_11 X S hi0 dX1_become_9 ?_
    refine lv_iload_n X.1 X.2.1 dX1_become_12 rfl (lv_at hl 2 rfl) ?_
    obtain ⟨g_2, h⟩ := pz_gd_e h
    refine aa_16 X S hi0 g_2 dX1_become_13 ?_
    refine lv_aload_n X.1 X.2.1 dX1_become_14 rfl (lv_at hl 1 rfl) ?_
    refine gf_X1_11 X S hi1 dX1_become_15 ?_
    refine lv_iload_n X.1 X.2.1 dX1_become_18 rfl (lv_at hl 2 rfl) ?_
    obtain ⟨g_3, h⟩ := pz_gd_e h
    refine aa_16 X S hi1 g_3 dX1_become_19 ?_
    obtain ⟨q_4, eq_4, h⟩ := pz_bd_e h
    refine r_Vv X S (c_X2_become hn (el_16 hi0 g_2) (el_16 hi1 g_3) eq_4) gd_X1_76 ⟨rfl, ny_X2_become⟩ ⟨rfl, rfl⟩ ⟨Nat.le_of_ble_eq_true rfl, Nat.le_of_ble_eq_true rfl⟩ (r_recv X S (ly_ok_2 (el_16 hi0 g_2) S.2.2.2) rfl rfl) rfl rfl hl.1 (Nat.le_of_ble_eq_true rfl) dX1_become_20 (fun H locs S => ?_)
    obtain ⟨x_5, ex_5⟩ : ∃ y : Int32, y = (a2 + (1 : Int32)) := ⟨_, rfl⟩
    have h := pz_lt_e h ex_5
    refine lv_iinc (v := x_5) (lv' := [(2, .int x_5), (0, .ref (cx_b G + ly_loc 1 i0)), (1, .ref (cx_b G + ly_loc 1 i1))]) X.1 X.2.1 dX1_become_23 hl (k := 2) rfl (by rw [ex_5]; rfl) (by decide) rfl (fun ls hl => ?_)
    refine lv_goto (tgt := 2) X.1 X.2.1 dX1_become_26 (by decide) ?_
    exact ih h S (lv_sub hl [1, 2, 0] rfl)
def f_X1_become (N n : Nat) (I : mm_T) (i0 : Nat) (i1 : Nat) : Option (mm_T) := f_X1_become_L2 N n i0 i1 N I (0 : Int32)
set_option maxRecDepth 100000 in
set_option maxHeartbeats 4000000 in
theorem c_X1_become {l : Launch} {G : cx_T} {N n : Nat} {I J : mm_T} {i0 : Nat} {i1 : Nat} (hn : 144 ≤ n) (hi0 : i0 < 2) (hi1 : i1 < 2) {z : mm_T} (h : f_X1_become N n I i0 i1 = some z) : ct_m l G n yX1_become cX1_become 3 none ({ frames := 1, cells := 0, slots := 0, locals := 21 }) [.ref (cx_b G + ly_loc 1 i0), .ref (cx_b G + ly_loc 1 i1)] I J (ct_qv G n z J) := by
  refine ct_en (by decide) (Nat.le_of_ble_eq_true rfl) ?_
  intro p e s m args below meth c ls X S hl
  have X : cx_ok G p s m args meth c cX1_become 3 RX1 none := X
  have hl : lv_has ls 3 [(0, .ref (cx_b G + ly_loc 1 i0)), (1, .ref (cx_b G + ly_loc 1 i1))] := hl
  unfold f_X1_become at h
  refine lv_iconst (v := 0) X.1 X.2.1 dX1_become_0 (by decide) ?_
  refine lv_istore_n (lv' := [(2, .int (0 : Int32)), (0, .ref (cx_b G + ly_loc 1 i0)), (1, .ref (cx_b G + ly_loc 1 i1))]) X.1 X.2.1 dX1_become_1 rfl hl (by decide) rfl (fun ls hl => ?_)
  exact w_X1_become_L2 X hn hi0 hi1 N h S (lv_sub hl [1, 2, 0] rfl)
def f_X1_isRow_L10 (N n : Nat) (I : mm_T) (i0 : Nat) (p1 : Int32) : Nat → Int32 → Int32 → Option (Int32)
  | 0, _, _ => none
  | cnt + 1, a2, a3 => if a3 ≤ 0 then (some (1 : Int32)) else (pz_lt ((a3 - a3 / (10 : Int32) * (10 : Int32)) - (1 : Int32)) fun x_3 => pz_bd (f_X1_hasSlip N n I i0 x_3) fun q_4 => if q_4 = 0 then (some (0 : Int32)) else (if ((a2 >>> (x_3 &&& 31)) &&& (1 : Int32)) = (1 : Int32) then (some (0 : Int32)) else (pz_lt (a2 ||| ((1 : Int32) <<< (x_3 &&& 31))) fun x_7 => pz_lt (a3 / (10 : Int32)) fun x_8 => f_X1_isRow_L10 N n I i0 p1 cnt x_7 x_8)))
set_option maxRecDepth 100000 in
set_option maxHeartbeats 4000000 in
theorem w_X1_isRow_L10 {l : Launch} {G : cx_T} {p : Program} {e : Env} {s : State} {m : MethodId} {args : Array Value} {below : List Frame} {meth : Method} {c : Code} {N n : Nat} {I J : mm_T} {i0 : Nat} {p1 : Int32} (X : cx_ok G p s m args meth c cX1_isRow 5 RX1 (some .boolean)) (hn : 144 ≤ n) (hi0 : i0 < 2) {z : Int32} : ∀ (cnt : Nat) {a2 : Int32} {a3 : Int32} {H : Heap} {locs : List Loc} {ls : Array Slot} , f_X1_isRow_L10 N n I i0 p1 cnt a2 a3 = some z → st_ok G n I J s H locs → lv_has ls 5 [(0, .ref (cx_b G + ly_loc 1 i0)), (2, .int a2), (3, .int a3)] → W p l e ({ frames := 1, cells := 0, slots := 0, locals := 21 }) s m args below meth c H locs 0 0 (MQ below (ct_qi G n I J z) args s 0 0 (cx_A G)) (F0 m 10 ls []) := by
  intro cnt
  induction cnt with
  | zero =>
    intro a2 a3 H locs ls h
    rw [f_X1_isRow_L10] at h
    cases h
  | succ cnt ih =>
    intro a2 a3 H locs ls h S hl
    rw [f_X1_isRow_L10] at h
    refine lv_iload_n X.1 X.2.1 dX1_isRow_10 rfl (lv_at hl 2 rfl) ?_
    refine lv_if_le (tgt := 58) X.1 X.2.1 dX1_isRow_11 (by decide) (fun c_2 => ?_) (fun c_2 => ?_)
    · have h := pz_t c_2 h
      refine lv_iconst (v := 1) X.1 X.2.1 dX1_isRow_58 (by decide) ?_
      cases h
      exact r_zret (v := 1) X S rfl dX1_isRow_59
    have h := pz_f c_2 h
    refine lv_iload_n X.1 X.2.1 dX1_isRow_14 rfl (lv_at hl 2 rfl) ?_
    refine lv_bipush (v := 10) X.1 X.2.1 dX1_isRow_15 (by decide) ?_
    refine lv_irem X.1 X.2.1 dX1_isRow_17 (by decide) ?_
    refine lv_iconst (v := 1) X.1 X.2.1 dX1_isRow_18 (by decide) ?_
    refine lv_isub X.1 X.2.1 dX1_isRow_19 ?_
    refine lv_topi (fun x_3 ex_3 => ?_)
    have h := pz_lt_e h ex_3
    refine lv_istore (lv' := [(4, .int x_3), (0, .ref (cx_b G + ly_loc 1 i0)), (2, .int a2), (3, .int a3)]) X.1 X.2.1 dX1_isRow_20 hl (by decide) rfl (fun ls hl => ?_)
    refine lv_aload_n X.1 X.2.1 dX1_isRow_22 rfl (lv_at hl 1 rfl) ?_
    refine lv_iload X.1 X.2.1 dX1_isRow_23 (lv_at hl 0 rfl) ?_
    obtain ⟨q_4, eq_4, h⟩ := pz_bd_e h
    refine r_Vi X S (c_X1_hasSlip hn hi0 eq_4) gd_X1_60 ⟨rfl, ny_X1_hasSlip⟩ ⟨rfl, rfl⟩ ⟨Nat.le_of_ble_eq_true rfl, Nat.le_of_ble_eq_true rfl⟩ (r_recv X S (ly_ok_1 hi0 S.2.2.2) rfl rfl) rfl rfl hl.1 (Nat.le_of_ble_eq_true rfl) dX1_isRow_25 (fun H locs S => ?_)
    refine lv_if_eq (tgt := 41) X.1 X.2.1 dX1_isRow_28 (by decide) (fun c_5 => ?_) (fun c_5 => ?_)
    · have h := pz_t c_5 h
      refine lv_iconst (v := 0) X.1 X.2.1 dX1_isRow_41 (by decide) ?_
      cases h
      exact r_zret (v := 0) X S rfl dX1_isRow_42
    have h := pz_f c_5 h
    refine lv_iload_n X.1 X.2.1 dX1_isRow_31 rfl (lv_at hl 2 rfl) ?_
    refine lv_iload X.1 X.2.1 dX1_isRow_32 (lv_at hl 0 rfl) ?_
    refine lv_ishr X.1 X.2.1 dX1_isRow_34 ?_
    refine lv_iconst (v := 1) X.1 X.2.1 dX1_isRow_35 (by decide) ?_
    refine lv_iand X.1 X.2.1 dX1_isRow_36 ?_
    refine lv_iconst (v := 1) X.1 X.2.1 dX1_isRow_37 (by decide) ?_
    refine lv_icmp_ne (tgt := 43) X.1 X.2.1 dX1_isRow_38 (by decide) (fun c_6 => ?_) (fun c_6 => ?_)
    · have h := pz_f c_6 h
      refine lv_iload_n X.1 X.2.1 dX1_isRow_43 rfl (lv_at hl 2 rfl) ?_
      refine lv_iconst (v := 1) X.1 X.2.1 dX1_isRow_44 (by decide) ?_
      refine lv_iload X.1 X.2.1 dX1_isRow_45 (lv_at hl 0 rfl) ?_
      refine lv_ishl X.1 X.2.1 dX1_isRow_47 ?_
      refine lv_ior X.1 X.2.1 dX1_isRow_48 ?_
      refine lv_topi (fun x_7 ex_7 => ?_)
      have h := pz_lt_e h ex_7
      refine lv_istore_n (lv' := [(2, .int x_7), (4, .int x_3), (0, .ref (cx_b G + ly_loc 1 i0)), (3, .int a3)]) X.1 X.2.1 dX1_isRow_49 rfl hl (by decide) rfl (fun ls hl => ?_)
      refine lv_iload_n X.1 X.2.1 dX1_isRow_50 rfl (lv_at hl 3 rfl) ?_
      refine lv_bipush (v := 10) X.1 X.2.1 dX1_isRow_51 (by decide) ?_
      refine lv_idiv X.1 X.2.1 dX1_isRow_53 (by decide) ?_
      refine lv_topi (fun x_8 ex_8 => ?_)
      have h := pz_lt_e h ex_8
      refine lv_istore_n (lv' := [(3, .int x_8), (2, .int x_7), (4, .int x_3), (0, .ref (cx_b G + ly_loc 1 i0))]) X.1 X.2.1 dX1_isRow_54 rfl hl (by decide) rfl (fun ls hl => ?_)
      refine lv_goto (tgt := 10) X.1 X.2.1 dX1_isRow_55 (by decide) ?_
      exact ih h S (lv_sub hl [3, 1, 0] rfl)
    have h := pz_t c_6 h
    refine lv_iconst (v := 0) X.1 X.2.1 dX1_isRow_41 (by decide) ?_
    cases h
    exact r_zret (v := 0) X S rfl dX1_isRow_42
def f_X1_isRow (N n : Nat) (I : mm_T) (i0 : Nat) (p1 : Int32) : Option (Int32) := if 0 ≤ p1 then (f_X1_isRow_L10 N n I i0 p1 N (0 : Int32) p1) else (some (0 : Int32))
set_option maxRecDepth 100000 in
set_option maxHeartbeats 4000000 in
theorem c_X1_isRow {l : Launch} {G : cx_T} {N n : Nat} {I J : mm_T} {i0 : Nat} {p1 : Int32} (hn : 144 ≤ n) (hi0 : i0 < 2) {z : Int32} (h : f_X1_isRow N n I i0 p1 = some z) : ct_m l G n yX1_isRow cX1_isRow 5 (some .boolean) ({ frames := 1, cells := 0, slots := 0, locals := 21 }) [.ref (cx_b G + ly_loc 1 i0), .int p1] I J (ct_qi G n I J z) := by
  refine ct_en (by decide) (Nat.le_of_ble_eq_true rfl) ?_
  intro p e s m args below meth c ls X S hl
  have X : cx_ok G p s m args meth c cX1_isRow 5 RX1 (some .boolean) := X
  have hl : lv_has ls 5 [(0, .ref (cx_b G + ly_loc 1 i0)), (1, .int p1)] := hl
  unfold f_X1_isRow at h
  refine lv_iload_n X.1 X.2.1 dX1_isRow_0 rfl (lv_at hl 1 rfl) ?_
  refine lv_if_ge (tgt := 6) X.1 X.2.1 dX1_isRow_1 (by decide) (fun c_1 => ?_) (fun c_1 => ?_)
  · have h := pz_t c_1 h
    refine lv_iconst (v := 0) X.1 X.2.1 dX1_isRow_6 (by decide) ?_
    refine lv_istore_n (lv' := [(2, .int (0 : Int32)), (0, .ref (cx_b G + ly_loc 1 i0)), (1, .int p1)]) X.1 X.2.1 dX1_isRow_7 rfl hl (by decide) rfl (fun ls hl => ?_)
    refine lv_iload_n X.1 X.2.1 dX1_isRow_8 rfl (lv_at hl 2 rfl) ?_
    refine lv_istore_n (lv' := [(3, .int p1), (2, .int (0 : Int32)), (0, .ref (cx_b G + ly_loc 1 i0)), (1, .int p1)]) X.1 X.2.1 dX1_isRow_9 rfl hl (by decide) rfl (fun ls hl => ?_)
    exact w_X1_isRow_L10 X hn hi0 N h S (lv_sub hl [2, 1, 0] rfl)
  have h := pz_f c_1 h
  refine lv_iconst (v := 0) X.1 X.2.1 dX1_isRow_4 (by decide) ?_
  cases h
  exact r_zret (v := 0) X S rfl dX1_isRow_5
def f_X6_moves (N n : Nat) (I : mm_T) (i0 : Nat) (p1 : Int32) : Option (Int32) := pz_lt (I 6 i0 0) fun x_1 => if x_1 = (1 : Int32) then (some ((1 : Int32) - (I 6 i0 1))) else if x_1 = (2 : Int32) then (some ((1 : Int32) + (I 6 i0 1))) else if x_1 = (3 : Int32) then (if 0 ≤ p1 then (some ((1 : Int32) - (I 6 i0 1))) else (some (0 : Int32))) else if x_1 = (4 : Int32) then (if 0 ≤ p1 then (some ((1 : Int32) + (I 6 i0 1))) else (some ((2 : Int32) * ((1 : Int32) + (I 6 i0 1))))) else if x_1 = (5 : Int32) then (some (((1 : Int32) + (I 6 i0 1)) / (2 : Int32))) else (some (1 : Int32))
set_option maxRecDepth 100000 in
set_option maxHeartbeats 4000000 in
theorem c_X6_moves {l : Launch} {G : cx_T} {N n : Nat} {I J : mm_T} {i0 : Nat} {p1 : Int32} (hn : 144 ≤ n) (hi0 : i0 < 14) {z : Int32} (h : f_X6_moves N n I i0 p1 = some z) : ct_m l G n yX6_moves cX6_moves 2 (some .int) ({ frames := 0, cells := 0, slots := 0, locals := 0 }) [.ref (cx_b G + ly_loc 6 i0), .int p1] I J (ct_qi G n I J z) := by
  refine ct_en (by decide) (Nat.le_of_ble_eq_true rfl) ?_
  intro p e s m args below meth c ls X S hl
  have X : cx_ok G p s m args meth c cX6_moves 2 RX6 (some .int) := X
  have hl : lv_has ls 2 [(0, .ref (cx_b G + ly_loc 6 i0)), (1, .int p1)] := hl
  unfold f_X6_moves at h
  refine lv_aload_n X.1 X.2.1 dX6_moves_0 rfl (lv_at hl 0 rfl) ?_
  refine gf_X6_9 X S hi0 dX6_moves_1 ?_
  refine lv_topi (fun x_1 ex_1 => ?_)
  have h := pz_lt_e h ex_1
  rcases Decidable.em (x_1 = (1 : Int32)) with c_2 | c_2
  · have h := pz_t c_2 h
    refine lv_tableIn (off := 36) (tgt := 40) X.1 X.2.1 dX6_moves_4 (by rw [c_2]; decide +kernel) (by rw [c_2]; decide +kernel) (by rw [c_2]; decide +kernel) (by decide) ?_
    refine lv_iconst (v := 1) X.1 X.2.1 dX6_moves_40 (by decide) ?_
    refine lv_aload_n X.1 X.2.1 dX6_moves_41 rfl (lv_at hl 0 rfl) ?_
    refine gf_X6_15 X S hi0 dX6_moves_42 ?_
    refine lv_isub X.1 X.2.1 dX6_moves_45 ?_
    cases h
    exact r_iret X S dX6_moves_46
  have h := pz_f c_2 h
  rcases Decidable.em (x_1 = (2 : Int32)) with c_3 | c_3
  · have h := pz_t c_3 h
    refine lv_tableIn (off := 43) (tgt := 47) X.1 X.2.1 dX6_moves_4 (by rw [c_3]; decide +kernel) (by rw [c_3]; decide +kernel) (by rw [c_3]; decide +kernel) (by decide) ?_
    refine lv_iconst (v := 1) X.1 X.2.1 dX6_moves_47 (by decide) ?_
    refine lv_aload_n X.1 X.2.1 dX6_moves_48 rfl (lv_at hl 0 rfl) ?_
    refine gf_X6_15 X S hi0 dX6_moves_49 ?_
    refine lv_iadd X.1 X.2.1 dX6_moves_52 ?_
    cases h
    exact r_iret X S dX6_moves_53
  have h := pz_f c_3 h
  rcases Decidable.em (x_1 = (3 : Int32)) with c_4 | c_4
  · have h := pz_t c_4 h
    refine lv_tableIn (off := 50) (tgt := 54) X.1 X.2.1 dX6_moves_4 (by rw [c_4]; decide +kernel) (by rw [c_4]; decide +kernel) (by rw [c_4]; decide +kernel) (by decide) ?_
    refine lv_iload_n X.1 X.2.1 dX6_moves_54 rfl (lv_at hl 1 rfl) ?_
    refine lv_if_ge (tgt := 62) X.1 X.2.1 dX6_moves_55 (by decide) (fun c_5 => ?_) (fun c_5 => ?_)
    · have h := pz_t c_5 h
      refine lv_iconst (v := 1) X.1 X.2.1 dX6_moves_62 (by decide) ?_
      refine lv_aload_n X.1 X.2.1 dX6_moves_63 rfl (lv_at hl 0 rfl) ?_
      refine gf_X6_15 X S hi0 dX6_moves_64 ?_
      refine lv_isub X.1 X.2.1 dX6_moves_67 ?_
      cases h
      exact r_iret X S dX6_moves_68
    have h := pz_f c_5 h
    refine lv_iconst (v := 0) X.1 X.2.1 dX6_moves_58 (by decide) ?_
    refine lv_goto (tgt := 68) X.1 X.2.1 dX6_moves_59 (by decide) ?_
    cases h
    exact r_iret X S dX6_moves_68
  have h := pz_f c_4 h
  rcases Decidable.em (x_1 = (4 : Int32)) with c_6 | c_6
  · have h := pz_t c_6 h
    refine lv_tableIn (off := 65) (tgt := 69) X.1 X.2.1 dX6_moves_4 (by rw [c_6]; decide +kernel) (by rw [c_6]; decide +kernel) (by rw [c_6]; decide +kernel) (by decide) ?_
    refine lv_iload_n X.1 X.2.1 dX6_moves_69 rfl (lv_at hl 1 rfl) ?_
    refine lv_if_ge (tgt := 84) X.1 X.2.1 dX6_moves_70 (by decide) (fun c_7 => ?_) (fun c_7 => ?_)
    · have h := pz_t c_7 h
      refine lv_iconst (v := 1) X.1 X.2.1 dX6_moves_84 (by decide) ?_
      refine lv_aload_n X.1 X.2.1 dX6_moves_85 rfl (lv_at hl 0 rfl) ?_
      refine gf_X6_15 X S hi0 dX6_moves_86 ?_
      refine lv_iadd X.1 X.2.1 dX6_moves_89 ?_
      cases h
      exact r_iret X S dX6_moves_90
    have h := pz_f c_7 h
    refine lv_iconst (v := 2) X.1 X.2.1 dX6_moves_73 (by decide) ?_
    refine lv_iconst (v := 1) X.1 X.2.1 dX6_moves_74 (by decide) ?_
    refine lv_aload_n X.1 X.2.1 dX6_moves_75 rfl (lv_at hl 0 rfl) ?_
    refine gf_X6_15 X S hi0 dX6_moves_76 ?_
    refine lv_iadd X.1 X.2.1 dX6_moves_79 ?_
    refine lv_imul X.1 X.2.1 dX6_moves_80 ?_
    refine lv_goto (tgt := 90) X.1 X.2.1 dX6_moves_81 (by decide) ?_
    cases h
    exact r_iret X S dX6_moves_90
  have h := pz_f c_6 h
  rcases Decidable.em (x_1 = (5 : Int32)) with c_8 | c_8
  · have h := pz_t c_8 h
    refine lv_tableIn (off := 87) (tgt := 91) X.1 X.2.1 dX6_moves_4 (by rw [c_8]; decide +kernel) (by rw [c_8]; decide +kernel) (by rw [c_8]; decide +kernel) (by decide) ?_
    refine lv_iconst (v := 1) X.1 X.2.1 dX6_moves_91 (by decide) ?_
    refine lv_aload_n X.1 X.2.1 dX6_moves_92 rfl (lv_at hl 0 rfl) ?_
    refine gf_X6_15 X S hi0 dX6_moves_93 ?_
    refine lv_iadd X.1 X.2.1 dX6_moves_96 ?_
    refine lv_iconst (v := 2) X.1 X.2.1 dX6_moves_97 (by decide) ?_
    refine lv_idiv X.1 X.2.1 dX6_moves_98 (by decide) ?_
    cases h
    exact r_iret X S dX6_moves_99
  have h := pz_f c_8 h
  refine lv_tableOut (tgt := 100) X.1 X.2.1 dX6_moves_4 (pz_out 1 5 [(1 : Int32), (2 : Int32), (3 : Int32), (4 : Int32), (5 : Int32)] (by decide +kernel) (by simp only [List.forall_mem_cons, List.not_mem_nil, false_imp_iff, implies_true, and_true]; exact ⟨c_2, c_3, c_4, c_6, c_8⟩)) (by decide) ?_
  refine lv_iconst (v := 1) X.1 X.2.1 dX6_moves_100 (by decide) ?_
  cases h
  exact r_iret X S dX6_moves_101
def f_X6_thirst (N n : Nat) (I : mm_T) (i0 : Nat) (p1 : Int32) : Option (Int32) := pz_lt (I 6 i0 0) fun x_1 => if x_1 = (1 : Int32) then (some (p1 / (2 : Int32))) else if x_1 = (2 : Int32) then (some p1) else if x_1 = (3 : Int32) then (some ((p1 / (2 : Int32)) + (I 6 i0 1))) else if x_1 = (4 : Int32) then (some (p1 + (1 : Int32))) else if x_1 = (5 : Int32) then (some (p1 + (3 : Int32))) else (some p1)
set_option maxRecDepth 100000 in
set_option maxHeartbeats 4000000 in
theorem c_X6_thirst {l : Launch} {G : cx_T} {N n : Nat} {I J : mm_T} {i0 : Nat} {p1 : Int32} (hn : 144 ≤ n) (hi0 : i0 < 14) {z : Int32} (h : f_X6_thirst N n I i0 p1 = some z) : ct_m l G n yX6_thirst cX6_thirst 2 (some .int) ({ frames := 0, cells := 0, slots := 0, locals := 0 }) [.ref (cx_b G + ly_loc 6 i0), .int p1] I J (ct_qi G n I J z) := by
  refine ct_en (by decide) (Nat.le_of_ble_eq_true rfl) ?_
  intro p e s m args below meth c ls X S hl
  have X : cx_ok G p s m args meth c cX6_thirst 2 RX6 (some .int) := X
  have hl : lv_has ls 2 [(0, .ref (cx_b G + ly_loc 6 i0)), (1, .int p1)] := hl
  unfold f_X6_thirst at h
  refine lv_aload_n X.1 X.2.1 dX6_thirst_0 rfl (lv_at hl 0 rfl) ?_
  refine gf_X6_9 X S hi0 dX6_thirst_1 ?_
  refine lv_topi (fun x_1 ex_1 => ?_)
  have h := pz_lt_e h ex_1
  rcases Decidable.em (x_1 = (1 : Int32)) with c_2 | c_2
  · have h := pz_t c_2 h
    refine lv_tableIn (off := 36) (tgt := 40) X.1 X.2.1 dX6_thirst_4 (by rw [c_2]; decide +kernel) (by rw [c_2]; decide +kernel) (by rw [c_2]; decide +kernel) (by decide) ?_
    refine lv_iload_n X.1 X.2.1 dX6_thirst_40 rfl (lv_at hl 1 rfl) ?_
    refine lv_iconst (v := 2) X.1 X.2.1 dX6_thirst_41 (by decide) ?_
    refine lv_idiv X.1 X.2.1 dX6_thirst_42 (by decide) ?_
    cases h
    exact r_iret X S dX6_thirst_43
  have h := pz_f c_2 h
  rcases Decidable.em (x_1 = (2 : Int32)) with c_3 | c_3
  · have h := pz_t c_3 h
    refine lv_tableIn (off := 57) (tgt := 61) X.1 X.2.1 dX6_thirst_4 (by rw [c_3]; decide +kernel) (by rw [c_3]; decide +kernel) (by rw [c_3]; decide +kernel) (by decide) ?_
    refine lv_iload_n X.1 X.2.1 dX6_thirst_61 rfl (lv_at hl 1 rfl) ?_
    cases h
    exact r_iret X S dX6_thirst_62
  have h := pz_f c_3 h
  rcases Decidable.em (x_1 = (3 : Int32)) with c_4 | c_4
  · have h := pz_t c_4 h
    refine lv_tableIn (off := 40) (tgt := 44) X.1 X.2.1 dX6_thirst_4 (by rw [c_4]; decide +kernel) (by rw [c_4]; decide +kernel) (by rw [c_4]; decide +kernel) (by decide) ?_
    refine lv_iload_n X.1 X.2.1 dX6_thirst_44 rfl (lv_at hl 1 rfl) ?_
    refine lv_iconst (v := 2) X.1 X.2.1 dX6_thirst_45 (by decide) ?_
    refine lv_idiv X.1 X.2.1 dX6_thirst_46 (by decide) ?_
    refine lv_aload_n X.1 X.2.1 dX6_thirst_47 rfl (lv_at hl 0 rfl) ?_
    refine gf_X6_15 X S hi0 dX6_thirst_48 ?_
    refine lv_iadd X.1 X.2.1 dX6_thirst_51 ?_
    cases h
    exact r_iret X S dX6_thirst_52
  have h := pz_f c_4 h
  rcases Decidable.em (x_1 = (4 : Int32)) with c_5 | c_5
  · have h := pz_t c_5 h
    refine lv_tableIn (off := 49) (tgt := 53) X.1 X.2.1 dX6_thirst_4 (by rw [c_5]; decide +kernel) (by rw [c_5]; decide +kernel) (by rw [c_5]; decide +kernel) (by decide) ?_
    refine lv_iload_n X.1 X.2.1 dX6_thirst_53 rfl (lv_at hl 1 rfl) ?_
    refine lv_iconst (v := 1) X.1 X.2.1 dX6_thirst_54 (by decide) ?_
    refine lv_iadd X.1 X.2.1 dX6_thirst_55 ?_
    cases h
    exact r_iret X S dX6_thirst_56
  have h := pz_f c_5 h
  rcases Decidable.em (x_1 = (5 : Int32)) with c_6 | c_6
  · have h := pz_t c_6 h
    refine lv_tableIn (off := 53) (tgt := 57) X.1 X.2.1 dX6_thirst_4 (by rw [c_6]; decide +kernel) (by rw [c_6]; decide +kernel) (by rw [c_6]; decide +kernel) (by decide) ?_
    refine lv_iload_n X.1 X.2.1 dX6_thirst_57 rfl (lv_at hl 1 rfl) ?_
    refine lv_iconst (v := 3) X.1 X.2.1 dX6_thirst_58 (by decide) ?_
    refine lv_iadd X.1 X.2.1 dX6_thirst_59 ?_
    cases h
    exact r_iret X S dX6_thirst_60
  have h := pz_f c_6 h
  refine lv_tableOut (tgt := 61) X.1 X.2.1 dX6_thirst_4 (pz_out 1 5 [(1 : Int32), (2 : Int32), (3 : Int32), (4 : Int32), (5 : Int32)] (by decide +kernel) (by simp only [List.forall_mem_cons, List.not_mem_nil, false_imp_iff, implies_true, and_true]; exact ⟨c_2, c_3, c_4, c_5, c_6⟩)) (by decide) ?_
  refine lv_iload_n X.1 X.2.1 dX6_thirst_61 rfl (lv_at hl 1 rfl) ?_
  cases h
  exact r_iret X S dX6_thirst_62
def f_X6_isOf (N n : Nat) (I : mm_T) (i0 : Nat) (p1 : Int32) : Option (Int32) := pz_lt p1 fun x_1 => if x_1 = (0 : Int32) then (some (1 : Int32)) else if x_1 = (1 : Int32) then (if (I 6 i0 0) = (1 : Int32) then (some (1 : Int32)) else (if (I 6 i0 0) = (3 : Int32) then (some (1 : Int32)) else (some (0 : Int32)))) else if x_1 = (2 : Int32) then (if (I 6 i0 0) = (2 : Int32) then (some (1 : Int32)) else (if (I 6 i0 0) = (4 : Int32) then (some (1 : Int32)) else (if (I 6 i0 0) = (5 : Int32) then (some (1 : Int32)) else (some (0 : Int32))))) else (if (I 6 i0 0) = p1 then (some (1 : Int32)) else (some (0 : Int32)))
set_option maxRecDepth 100000 in
set_option maxHeartbeats 4000000 in
theorem c_X6_isOf {l : Launch} {G : cx_T} {N n : Nat} {I J : mm_T} {i0 : Nat} {p1 : Int32} (hn : 144 ≤ n) (hi0 : i0 < 14) {z : Int32} (h : f_X6_isOf N n I i0 p1 = some z) : ct_m l G n yX6_isOf cX6_isOf 2 (some .boolean) ({ frames := 0, cells := 0, slots := 0, locals := 0 }) [.ref (cx_b G + ly_loc 6 i0), .int p1] I J (ct_qi G n I J z) := by
  refine ct_en (by decide) (Nat.le_of_ble_eq_true rfl) ?_
  intro p e s m args below meth c ls X S hl
  have X : cx_ok G p s m args meth c cX6_isOf 2 RX6 (some .boolean) := X
  have hl : lv_has ls 2 [(0, .ref (cx_b G + ly_loc 6 i0)), (1, .int p1)] := hl
  unfold f_X6_isOf at h
  refine lv_iload_n X.1 X.2.1 dX6_isOf_0 rfl (lv_at hl 1 rfl) ?_
  refine lv_topi (fun x_1 ex_1 => ?_)
  have h := pz_lt_e h ex_1
  rcases Decidable.em (x_1 = (0 : Int32)) with c_2 | c_2
  · have h := pz_t c_2 h
    refine lv_tableIn (off := 27) (tgt := 28) X.1 X.2.1 dX6_isOf_1 (by rw [c_2]; decide +kernel) (by rw [c_2]; decide +kernel) (by rw [c_2]; decide +kernel) (by decide) ?_
    refine lv_iconst (v := 1) X.1 X.2.1 dX6_isOf_28 (by decide) ?_
    cases h
    exact r_zret (v := 1) X S rfl dX6_isOf_29
  have h := pz_f c_2 h
  rcases Decidable.em (x_1 = (1 : Int32)) with c_3 | c_3
  · have h := pz_t c_3 h
    refine lv_tableIn (off := 29) (tgt := 30) X.1 X.2.1 dX6_isOf_1 (by rw [c_3]; decide +kernel) (by rw [c_3]; decide +kernel) (by rw [c_3]; decide +kernel) (by decide) ?_
    refine lv_aload_n X.1 X.2.1 dX6_isOf_30 rfl (lv_at hl 0 rfl) ?_
    refine gf_X6_9 X S hi0 dX6_isOf_31 ?_
    refine lv_iconst (v := 1) X.1 X.2.1 dX6_isOf_34 (by decide) ?_
    refine lv_icmp_eq (tgt := 46) X.1 X.2.1 dX6_isOf_35 (by decide) (fun c_4 => ?_) (fun c_4 => ?_)
    · have h := pz_t c_4 h
      refine lv_iconst (v := 1) X.1 X.2.1 dX6_isOf_46 (by decide) ?_
      refine lv_goto (tgt := 51) X.1 X.2.1 dX6_isOf_47 (by decide) ?_
      cases h
      exact r_zret (v := 1) X S rfl dX6_isOf_51
    have h := pz_f c_4 h
    refine lv_aload_n X.1 X.2.1 dX6_isOf_38 rfl (lv_at hl 0 rfl) ?_
    refine gf_X6_9 X S hi0 dX6_isOf_39 ?_
    refine lv_iconst (v := 3) X.1 X.2.1 dX6_isOf_42 (by decide) ?_
    refine lv_icmp_ne (tgt := 50) X.1 X.2.1 dX6_isOf_43 (by decide) (fun c_5 => ?_) (fun c_5 => ?_)
    · have h := pz_f c_5 h
      refine lv_iconst (v := 0) X.1 X.2.1 dX6_isOf_50 (by decide) ?_
      cases h
      exact r_zret (v := 0) X S rfl dX6_isOf_51
    have h := pz_t c_5 h
    refine lv_iconst (v := 1) X.1 X.2.1 dX6_isOf_46 (by decide) ?_
    refine lv_goto (tgt := 51) X.1 X.2.1 dX6_isOf_47 (by decide) ?_
    cases h
    exact r_zret (v := 1) X S rfl dX6_isOf_51
  have h := pz_f c_3 h
  rcases Decidable.em (x_1 = (2 : Int32)) with c_6 | c_6
  · have h := pz_t c_6 h
    refine lv_tableIn (off := 51) (tgt := 52) X.1 X.2.1 dX6_isOf_1 (by rw [c_6]; decide +kernel) (by rw [c_6]; decide +kernel) (by rw [c_6]; decide +kernel) (by decide) ?_
    refine lv_aload_n X.1 X.2.1 dX6_isOf_52 rfl (lv_at hl 0 rfl) ?_
    refine gf_X6_9 X S hi0 dX6_isOf_53 ?_
    refine lv_iconst (v := 2) X.1 X.2.1 dX6_isOf_56 (by decide) ?_
    refine lv_icmp_eq (tgt := 76) X.1 X.2.1 dX6_isOf_57 (by decide) (fun c_7 => ?_) (fun c_7 => ?_)
    · have h := pz_t c_7 h
      refine lv_iconst (v := 1) X.1 X.2.1 dX6_isOf_76 (by decide) ?_
      refine lv_goto (tgt := 81) X.1 X.2.1 dX6_isOf_77 (by decide) ?_
      cases h
      exact r_zret (v := 1) X S rfl dX6_isOf_81
    have h := pz_f c_7 h
    refine lv_aload_n X.1 X.2.1 dX6_isOf_60 rfl (lv_at hl 0 rfl) ?_
    refine gf_X6_9 X S hi0 dX6_isOf_61 ?_
    refine lv_iconst (v := 4) X.1 X.2.1 dX6_isOf_64 (by decide) ?_
    refine lv_icmp_eq (tgt := 76) X.1 X.2.1 dX6_isOf_65 (by decide) (fun c_8 => ?_) (fun c_8 => ?_)
    · have h := pz_t c_8 h
      refine lv_iconst (v := 1) X.1 X.2.1 dX6_isOf_76 (by decide) ?_
      refine lv_goto (tgt := 81) X.1 X.2.1 dX6_isOf_77 (by decide) ?_
      cases h
      exact r_zret (v := 1) X S rfl dX6_isOf_81
    have h := pz_f c_8 h
    refine lv_aload_n X.1 X.2.1 dX6_isOf_68 rfl (lv_at hl 0 rfl) ?_
    refine gf_X6_9 X S hi0 dX6_isOf_69 ?_
    refine lv_iconst (v := 5) X.1 X.2.1 dX6_isOf_72 (by decide) ?_
    refine lv_icmp_ne (tgt := 80) X.1 X.2.1 dX6_isOf_73 (by decide) (fun c_9 => ?_) (fun c_9 => ?_)
    · have h := pz_f c_9 h
      refine lv_iconst (v := 0) X.1 X.2.1 dX6_isOf_80 (by decide) ?_
      cases h
      exact r_zret (v := 0) X S rfl dX6_isOf_81
    have h := pz_t c_9 h
    refine lv_iconst (v := 1) X.1 X.2.1 dX6_isOf_76 (by decide) ?_
    refine lv_goto (tgt := 81) X.1 X.2.1 dX6_isOf_77 (by decide) ?_
    cases h
    exact r_zret (v := 1) X S rfl dX6_isOf_81
  have h := pz_f c_6 h
  refine lv_tableOut (tgt := 82) X.1 X.2.1 dX6_isOf_1 (pz_out 0 2 [(0 : Int32), (1 : Int32), (2 : Int32)] (by decide +kernel) (by simp only [List.forall_mem_cons, List.not_mem_nil, false_imp_iff, implies_true, and_true]; exact ⟨c_2, c_3, c_6⟩)) (by decide) ?_
  refine lv_aload_n X.1 X.2.1 dX6_isOf_82 rfl (lv_at hl 0 rfl) ?_
  refine gf_X6_9 X S hi0 dX6_isOf_83 ?_
  refine lv_iload_n X.1 X.2.1 dX6_isOf_86 rfl (lv_at hl 1 rfl) ?_
  refine lv_icmp_ne (tgt := 94) X.1 X.2.1 dX6_isOf_87 (by decide) (fun c_10 => ?_) (fun c_10 => ?_)
  · have h := pz_f c_10 h
    refine lv_iconst (v := 0) X.1 X.2.1 dX6_isOf_94 (by decide) ?_
    cases h
    exact r_zret (v := 0) X S rfl dX6_isOf_95
  have h := pz_t c_10 h
  refine lv_iconst (v := 1) X.1 X.2.1 dX6_isOf_90 (by decide) ?_
  refine lv_goto (tgt := 95) X.1 X.2.1 dX6_isOf_91 (by decide) ?_
  cases h
  exact r_zret (v := 1) X S rfl dX6_isOf_95
