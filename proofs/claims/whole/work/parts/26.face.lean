def f_X8_come (N n : Nat) (I : mm_T) (p1 : Int32) (p2 : Int32) : Option (mm_T × Int32) := pz_bd (f_X1_allows N n I 0 (0 : Int32) p1) fun q_1 => if q_1 = 0 then (some (I, (-2 : Int32))) else (pz_bd (f_X1_allows N n I 0 (1 : Int32) p2) fun q_3 => if q_3 = 0 then (some (I, (-2 : Int32))) else (pz_bd (f_X1_addPerson N n I 0 p1 p2) fun q_5 => some (q_5.1, q_5.2)))
set_option maxRecDepth 100000 in
set_option maxHeartbeats 4000000 in
theorem c_X8_come {l : Launch} {G : cx_T} {N n : Nat} {I J : mm_T} {p1 : Int32} {p2 : Int32} (hn : 144 ≤ n) {z : mm_T × Int32} (h : f_X8_come N n I p1 p2 = some z) : ct_m l G n yX8_come cX8_come 3 (some .int) ({ frames := 2, cells := 0, slots := 0, locals := 43 }) [.ref (cx_b G + ly_loc 8 0), .int p1, .int p2] I J (ct_qi G n z.1 J z.2) := by
  refine ct_en (by decide) (Nat.le_of_ble_eq_true rfl) ?_
  intro p e s m args below meth c ls X S hl
  have X : cx_ok G p s m args meth c cX8_come 3 RX8 (some .int) := X
  have hl : lv_has ls 3 [(0, .ref (cx_b G + ly_loc 8 0)), (1, .int p1), (2, .int p2)] := hl
  unfold f_X8_come at h
  refine lv_aload_n X.1 X.2.1 dX8_come_0 rfl (lv_at hl 0 rfl) ?_
  refine gf_X8_10 X S (by decide) dX8_come_1 ?_
  refine lv_iconst (v := 0) X.1 X.2.1 dX8_come_4 (by decide) ?_
  refine lv_iload_n X.1 X.2.1 dX8_come_5 rfl (lv_at hl 1 rfl) ?_
  obtain ⟨q_1, eq_1, h⟩ := pz_bd_e h
  refine r_Vi X S (c_X1_allows hn (by decide) eq_1) gd_X8_83 ⟨rfl, ny_X1_allows⟩ ⟨rfl, rfl⟩ ⟨Nat.le_of_ble_eq_true rfl, Nat.le_of_ble_eq_true rfl⟩ (r_recv X S (ly_ok_1 (by decide) S.2.2.2) rfl rfl) rfl rfl hl.1 (Nat.le_of_ble_eq_true rfl) dX8_come_6 (fun H locs S => ?_)
  refine lv_if_eq (tgt := 24) X.1 X.2.1 dX8_come_9 (by decide) (fun c_2 => ?_) (fun c_2 => ?_)
  · have h := pz_t c_2 h
    refine lv_bipush (v := -2) X.1 X.2.1 dX8_come_24 (by decide) ?_
    cases h
    exact r_iret X S dX8_come_26
  have h := pz_f c_2 h
  refine lv_aload_n X.1 X.2.1 dX8_come_12 rfl (lv_at hl 0 rfl) ?_
  refine gf_X8_10 X S (by decide) dX8_come_13 ?_
  refine lv_iconst (v := 1) X.1 X.2.1 dX8_come_16 (by decide) ?_
  refine lv_iload_n X.1 X.2.1 dX8_come_17 rfl (lv_at hl 2 rfl) ?_
  obtain ⟨q_3, eq_3, h⟩ := pz_bd_e h
  refine r_Vi X S (c_X1_allows hn (by decide) eq_3) gd_X8_83 ⟨rfl, ny_X1_allows⟩ ⟨rfl, rfl⟩ ⟨Nat.le_of_ble_eq_true rfl, Nat.le_of_ble_eq_true rfl⟩ (r_recv X S (ly_ok_1 (by decide) S.2.2.2) rfl rfl) rfl rfl hl.1 (Nat.le_of_ble_eq_true rfl) dX8_come_18 (fun H locs S => ?_)
  refine lv_if_ne (tgt := 27) X.1 X.2.1 dX8_come_21 (by decide) (fun c_4 => ?_) (fun c_4 => ?_)
  · have h := pz_f c_4 h
    refine lv_aload_n X.1 X.2.1 dX8_come_27 rfl (lv_at hl 0 rfl) ?_
    refine gf_X8_10 X S (by decide) dX8_come_28 ?_
    refine lv_iload_n X.1 X.2.1 dX8_come_31 rfl (lv_at hl 1 rfl) ?_
    refine lv_iload_n X.1 X.2.1 dX8_come_32 rfl (lv_at hl 2 rfl) ?_
    obtain ⟨q_5, eq_5, h⟩ := pz_bd_e h
    refine r_Vi X S (c_X1_addPerson hn (by decide) eq_5) gd_X8_87 ⟨rfl, ny_X1_addPerson⟩ ⟨rfl, rfl⟩ ⟨Nat.le_of_ble_eq_true rfl, Nat.le_of_ble_eq_true rfl⟩ (r_recv X S (ly_ok_1 (by decide) S.2.2.2) rfl rfl) rfl rfl hl.1 (Nat.le_of_ble_eq_true rfl) dX8_come_33 (fun H locs S => ?_)
    cases h
    exact r_iret X S dX8_come_36
  have h := pz_t c_4 h
  refine lv_bipush (v := -2) X.1 X.2.1 dX8_come_24 (by decide) ?_
  cases h
  exact r_iret X S dX8_come_26
def f_X8_slip (N n : Nat) (I : mm_T) (p1 : Int32) (p2 : Int32) (p3 : Int32) : Option (mm_T × Int32) := pz_bd (f_X1_addSlip N n I 0 p1 p2 p3) fun q_1 => some (q_1.1, q_1.2)
set_option maxRecDepth 100000 in
set_option maxHeartbeats 4000000 in
theorem c_X8_slip {l : Launch} {G : cx_T} {N n : Nat} {I J : mm_T} {p1 : Int32} {p2 : Int32} {p3 : Int32} (hn : 144 ≤ n) {z : mm_T × Int32} (h : f_X8_slip N n I p1 p2 p3 = some z) : ct_m l G n yX8_slip cX8_slip 4 (some .int) ({ frames := 2, cells := 0, slots := 0, locals := 45 }) [.ref (cx_b G + ly_loc 8 0), .int p1, .int p2, .int p3] I J (ct_qi G n z.1 J z.2) := by
  refine ct_en (by decide) (Nat.le_of_ble_eq_true rfl) ?_
  intro p e s m args below meth c ls X S hl
  have X : cx_ok G p s m args meth c cX8_slip 4 RX8 (some .int) := X
  have hl : lv_has ls 4 [(0, .ref (cx_b G + ly_loc 8 0)), (1, .int p1), (2, .int p2), (3, .int p3)] := hl
  unfold f_X8_slip at h
  refine lv_aload_n X.1 X.2.1 dX8_slip_0 rfl (lv_at hl 0 rfl) ?_
  refine gf_X8_10 X S (by decide) dX8_slip_1 ?_
  refine lv_iload_n X.1 X.2.1 dX8_slip_4 rfl (lv_at hl 1 rfl) ?_
  refine lv_iload_n X.1 X.2.1 dX8_slip_5 rfl (lv_at hl 2 rfl) ?_
  refine lv_iload_n X.1 X.2.1 dX8_slip_6 rfl (lv_at hl 3 rfl) ?_
  obtain ⟨q_1, eq_1, h⟩ := pz_bd_e h
  refine r_Vi X S (c_X1_addSlip hn (by decide) eq_1) gd_X8_91 ⟨rfl, ny_X1_addSlip⟩ ⟨rfl, rfl⟩ ⟨Nat.le_of_ble_eq_true rfl, Nat.le_of_ble_eq_true rfl⟩ (r_recv X S (ly_ok_1 (by decide) S.2.2.2) rfl rfl) rfl rfl hl.1 (Nat.le_of_ble_eq_true rfl) dX8_slip_7 (fun H locs S => ?_)
  cases h
  exact r_iret X S dX8_slip_10
def f_X8_set (N n : Nat) (I : mm_T) (p1 : Int32) (p2 : Int32) (p3 : Int32) : Option (mm_T × Int32) := pz_bd (f_X1_hasValue N n I 0 p1 p2) fun q_1 => if q_1 = 0 then (some (I, (-100000 : Int32))) else (pz_bd (f_X1_allows N n I 0 p1 p3) fun q_3 => if q_3 = 0 then (some (I, (-100000 : Int32))) else (pz_bd (f_X1_valueOf N n I 0 p1 p2) fun q_5 => pz_bd (f_X1_change N n I 0 p1 p2 p3) fun q_6 => some (q_6, q_5)))
set_option maxRecDepth 100000 in
set_option maxHeartbeats 4000000 in
theorem c_X8_set {l : Launch} {G : cx_T} {N n : Nat} {I J : mm_T} {p1 : Int32} {p2 : Int32} {p3 : Int32} (hn : 144 ≤ n) {z : mm_T × Int32} (h : f_X8_set N n I p1 p2 p3 = some z) : ct_m l G n yX8_set cX8_set 5 (some .int) ({ frames := 3, cells := 0, slots := 0, locals := 66 }) [.ref (cx_b G + ly_loc 8 0), .int p1, .int p2, .int p3] I J (ct_qi G n z.1 J z.2) := by
  refine ct_en (by decide) (Nat.le_of_ble_eq_true rfl) ?_
  intro p e s m args below meth c ls X S hl
  have X : cx_ok G p s m args meth c cX8_set 5 RX8 (some .int) := X
  have hl : lv_has ls 5 [(0, .ref (cx_b G + ly_loc 8 0)), (1, .int p1), (2, .int p2), (3, .int p3)] := hl
  unfold f_X8_set at h
  refine lv_aload_n X.1 X.2.1 dX8_set_0 rfl (lv_at hl 0 rfl) ?_
  refine gf_X8_10 X S (by decide) dX8_set_1 ?_
  refine lv_iload_n X.1 X.2.1 dX8_set_4 rfl (lv_at hl 1 rfl) ?_
  refine lv_iload_n X.1 X.2.1 dX8_set_5 rfl (lv_at hl 2 rfl) ?_
  obtain ⟨q_1, eq_1, h⟩ := pz_bd_e h
  refine r_Vi X S (c_X1_hasValue hn (by decide) eq_1) gd_X8_95 ⟨rfl, ny_X1_hasValue⟩ ⟨rfl, rfl⟩ ⟨Nat.le_of_ble_eq_true rfl, Nat.le_of_ble_eq_true rfl⟩ (r_recv X S (ly_ok_1 (by decide) S.2.2.2) rfl rfl) rfl rfl hl.1 (Nat.le_of_ble_eq_true rfl) dX8_set_6 (fun H locs S => ?_)
  refine lv_if_eq (tgt := 24) X.1 X.2.1 dX8_set_9 (by decide) (fun c_2 => ?_) (fun c_2 => ?_)
  · have h := pz_t c_2 h
    refine lv_ldc (v := -100000) X.1 X.2.1 X.2.2.2.1 (X.2.2.2.2.1 _ kw_X8_98) dX8_set_24 ?_
    cases h
    exact r_iret X S dX8_set_26
  have h := pz_f c_2 h
  refine lv_aload_n X.1 X.2.1 dX8_set_12 rfl (lv_at hl 0 rfl) ?_
  refine gf_X8_10 X S (by decide) dX8_set_13 ?_
  refine lv_iload_n X.1 X.2.1 dX8_set_16 rfl (lv_at hl 1 rfl) ?_
  refine lv_iload_n X.1 X.2.1 dX8_set_17 rfl (lv_at hl 3 rfl) ?_
  obtain ⟨q_3, eq_3, h⟩ := pz_bd_e h
  refine r_Vi X S (c_X1_allows hn (by decide) eq_3) gd_X8_83 ⟨rfl, ny_X1_allows⟩ ⟨rfl, rfl⟩ ⟨Nat.le_of_ble_eq_true rfl, Nat.le_of_ble_eq_true rfl⟩ (r_recv X S (ly_ok_1 (by decide) S.2.2.2) rfl rfl) rfl rfl hl.1 (Nat.le_of_ble_eq_true rfl) dX8_set_18 (fun H locs S => ?_)
  refine lv_if_ne (tgt := 27) X.1 X.2.1 dX8_set_21 (by decide) (fun c_4 => ?_) (fun c_4 => ?_)
  · have h := pz_f c_4 h
    refine lv_aload_n X.1 X.2.1 dX8_set_27 rfl (lv_at hl 0 rfl) ?_
    refine gf_X8_10 X S (by decide) dX8_set_28 ?_
    refine lv_iload_n X.1 X.2.1 dX8_set_31 rfl (lv_at hl 1 rfl) ?_
    refine lv_iload_n X.1 X.2.1 dX8_set_32 rfl (lv_at hl 2 rfl) ?_
    obtain ⟨q_5, eq_5, h⟩ := pz_bd_e h
    refine r_Vi X S (c_X1_valueOf hn (by decide) eq_5) gd_X8_99 ⟨rfl, ny_X1_valueOf⟩ ⟨rfl, rfl⟩ ⟨Nat.le_of_ble_eq_true rfl, Nat.le_of_ble_eq_true rfl⟩ (r_recv X S (ly_ok_1 (by decide) S.2.2.2) rfl rfl) rfl rfl hl.1 (Nat.le_of_ble_eq_true rfl) dX8_set_33 (fun H locs S => ?_)
    refine lv_istore (lv' := [(4, .int q_5), (0, .ref (cx_b G + ly_loc 8 0)), (1, .int p1), (2, .int p2), (3, .int p3)]) X.1 X.2.1 dX8_set_36 hl (by decide) rfl (fun ls hl => ?_)
    refine lv_aload_n X.1 X.2.1 dX8_set_38 rfl (lv_at hl 1 rfl) ?_
    refine gf_X8_10 X S (by decide) dX8_set_39 ?_
    refine lv_iload_n X.1 X.2.1 dX8_set_42 rfl (lv_at hl 2 rfl) ?_
    refine lv_iload_n X.1 X.2.1 dX8_set_43 rfl (lv_at hl 3 rfl) ?_
    refine lv_iload_n X.1 X.2.1 dX8_set_44 rfl (lv_at hl 4 rfl) ?_
    obtain ⟨q_6, eq_6, h⟩ := pz_bd_e h
    refine r_Vv X S (c_X1_change hn (by decide) eq_6) gd_X8_102 ⟨rfl, ny_X1_change⟩ ⟨rfl, rfl⟩ ⟨Nat.le_of_ble_eq_true rfl, Nat.le_of_ble_eq_true rfl⟩ (r_recv X S (ly_ok_1 (by decide) S.2.2.2) rfl rfl) rfl rfl hl.1 (Nat.le_of_ble_eq_true rfl) dX8_set_45 (fun H locs S => ?_)
    refine lv_iload X.1 X.2.1 dX8_set_48 (lv_at hl 0 rfl) ?_
    cases h
    exact r_iret X S dX8_set_50
  have h := pz_t c_4 h
  refine lv_ldc (v := -100000) X.1 X.2.1 X.2.2.2.1 (X.2.2.2.2.1 _ kw_X8_98) dX8_set_24 ?_
  cases h
  exact r_iret X S dX8_set_26
def f_X8_told (N n : Nat) (I : mm_T) (p1 : Int32) (p2 : Int32) : Option (Int32) := if p2 = (5 : Int32) then (pz_bd (f_X1_hasSlip N n I 0 p1) fun q_6 => if q_6 = 0 then (some (-2 : Int32)) else (pz_gd (ix_in p1 7) <| some (I 6 (7 * 0 + p1.toNatClampNeg) 0))) else (if (4 : Int32) < p2 then (some (-2 : Int32)) else (pz_bd (f_X1_hasValue N n I 0 p2 p1) fun q_3 => if q_3 = 0 then (some (-2 : Int32)) else (pz_bd (f_X1_valueOf N n I 0 p2 p1) fun q_5 => some q_5)))
set_option maxRecDepth 100000 in
set_option maxHeartbeats 4000000 in
theorem c_X8_told {l : Launch} {G : cx_T} {N n : Nat} {I J : mm_T} {p1 : Int32} {p2 : Int32} (hn : 144 ≤ n) {z : Int32} (h : f_X8_told N n I p1 p2 = some z) : ct_m l G n yX8_told cX8_told 3 (some .int) ({ frames := 3, cells := 0, slots := 0, locals := 65 }) [.ref (cx_b G + ly_loc 8 0), .int p1, .int p2] I J (ct_qi G n I J z) := by
  refine ct_en (by decide) (Nat.le_of_ble_eq_true rfl) ?_
  intro p e s m args below meth c ls X S hl
  have X : cx_ok G p s m args meth c cX8_told 3 RX8 (some .int) := X
  have hl : lv_has ls 3 [(0, .ref (cx_b G + ly_loc 8 0)), (1, .int p1), (2, .int p2)] := hl
  unfold f_X8_told at h
  refine lv_iload_n X.1 X.2.1 dX8_told_0 rfl (lv_at hl 2 rfl) ?_
  refine lv_iconst (v := 5) X.1 X.2.1 dX8_told_1 (by decide) ?_
  refine lv_icmp_ne (tgt := 34) X.1 X.2.1 dX8_told_2 (by decide) (fun c_1 => ?_) (fun c_1 => ?_)
  · have h := pz_f c_1 h
    refine lv_iload_n X.1 X.2.1 dX8_told_34 rfl (lv_at hl 2 rfl) ?_
    refine lv_iconst (v := 4) X.1 X.2.1 dX8_told_35 (by decide) ?_
    refine lv_icmp_gt (tgt := 51) X.1 X.2.1 dX8_told_36 (by decide) (fun c_2 => ?_) (fun c_2 => ?_)
    · have h := pz_t c_2 h
      refine lv_bipush (v := -2) X.1 X.2.1 dX8_told_51 (by decide) ?_
      cases h
      exact r_iret X S dX8_told_53
    have h := pz_f c_2 h
    refine lv_aload_n X.1 X.2.1 dX8_told_39 rfl (lv_at hl 0 rfl) ?_
    refine gf_X8_10 X S (by decide) dX8_told_40 ?_
    refine lv_iload_n X.1 X.2.1 dX8_told_43 rfl (lv_at hl 2 rfl) ?_
    refine lv_iload_n X.1 X.2.1 dX8_told_44 rfl (lv_at hl 1 rfl) ?_
    obtain ⟨q_3, eq_3, h⟩ := pz_bd_e h
    refine r_Vi X S (c_X1_hasValue hn (by decide) eq_3) gd_X8_95 ⟨rfl, ny_X1_hasValue⟩ ⟨rfl, rfl⟩ ⟨Nat.le_of_ble_eq_true rfl, Nat.le_of_ble_eq_true rfl⟩ (r_recv X S (ly_ok_1 (by decide) S.2.2.2) rfl rfl) rfl rfl hl.1 (Nat.le_of_ble_eq_true rfl) dX8_told_45 (fun H locs S => ?_)
    refine lv_if_ne (tgt := 54) X.1 X.2.1 dX8_told_48 (by decide) (fun c_4 => ?_) (fun c_4 => ?_)
    · have h := pz_f c_4 h
      refine lv_aload_n X.1 X.2.1 dX8_told_54 rfl (lv_at hl 0 rfl) ?_
      refine gf_X8_10 X S (by decide) dX8_told_55 ?_
      refine lv_iload_n X.1 X.2.1 dX8_told_58 rfl (lv_at hl 2 rfl) ?_
      refine lv_iload_n X.1 X.2.1 dX8_told_59 rfl (lv_at hl 1 rfl) ?_
      obtain ⟨q_5, eq_5, h⟩ := pz_bd_e h
      refine r_Vi X S (c_X1_valueOf hn (by decide) eq_5) gd_X8_99 ⟨rfl, ny_X1_valueOf⟩ ⟨rfl, rfl⟩ ⟨Nat.le_of_ble_eq_true rfl, Nat.le_of_ble_eq_true rfl⟩ (r_recv X S (ly_ok_1 (by decide) S.2.2.2) rfl rfl) rfl rfl hl.1 (Nat.le_of_ble_eq_true rfl) dX8_told_60 (fun H locs S => ?_)
      cases h
      exact r_iret X S dX8_told_63
    have h := pz_t c_4 h
    refine lv_bipush (v := -2) X.1 X.2.1 dX8_told_51 (by decide) ?_
    cases h
    exact r_iret X S dX8_told_53
  have h := pz_t c_1 h
  refine lv_aload_n X.1 X.2.1 dX8_told_5 rfl (lv_at hl 0 rfl) ?_
  refine gf_X8_10 X S (by decide) dX8_told_6 ?_
  refine lv_iload_n X.1 X.2.1 dX8_told_9 rfl (lv_at hl 1 rfl) ?_
  obtain ⟨q_6, eq_6, h⟩ := pz_bd_e h
  refine r_Vi X S (c_X1_hasSlip hn (by decide) eq_6) gd_X8_106 ⟨rfl, ny_X1_hasSlip⟩ ⟨rfl, rfl⟩ ⟨Nat.le_of_ble_eq_true rfl, Nat.le_of_ble_eq_true rfl⟩ (r_recv X S (ly_ok_1 (by decide) S.2.2.2) rfl rfl) rfl rfl hl.1 (Nat.le_of_ble_eq_true rfl) dX8_told_10 (fun H locs S => ?_)
  refine lv_if_eq (tgt := 31) X.1 X.2.1 dX8_told_13 (by decide) (fun c_7 => ?_) (fun c_7 => ?_)
  · have h := pz_t c_7 h
    refine lv_bipush (v := -2) X.1 X.2.1 dX8_told_31 (by decide) ?_
    cases h
    exact r_iret X S dX8_told_33
  have h := pz_f c_7 h
  refine lv_aload_n X.1 X.2.1 dX8_told_16 rfl (lv_at hl 0 rfl) ?_
  refine gf_X8_10 X S (by decide) dX8_told_17 ?_
  refine gf_X8_109 X S (by decide) dX8_told_20 ?_
  refine lv_iload_n X.1 X.2.1 dX8_told_23 rfl (lv_at hl 1 rfl) ?_
  obtain ⟨g_8, h⟩ := pz_gd_e h
  refine aa_17 X S (by decide) g_8 dX8_told_24 ?_
  refine gf_X8_113 X S (el_17 (by decide) g_8) dX8_told_25 ?_
  refine lv_goto (tgt := 33) X.1 X.2.1 dX8_told_28 (by decide) ?_
  cases h
  exact r_iret X S dX8_told_33
def f_X8_feed (N n : Nat) (I : mm_T) (p1 : Int32) : Option (mm_T × Int32) := if p1 < 0 then (some (I, (-2 : Int32))) else (if p1 ≤ (255 : Int32) then (pz_bd (f_X3_add N n I p1) fun q_3 => if q_3.2 = 0 then (some (q_3.1, (-4 : Int32))) else (some (q_3.1, (q_3.1 3 0 1)))) else (some (I, (-2 : Int32))))
set_option maxRecDepth 100000 in
set_option maxHeartbeats 4000000 in
theorem c_X8_feed {l : Launch} {G : cx_T} {N n : Nat} {I J : mm_T} {p1 : Int32} (hn : 144 ≤ n) {z : mm_T × Int32} (h : f_X8_feed N n I p1 = some z) : ct_m l G n yX8_feed cX8_feed 2 (some .int) ({ frames := 1, cells := 0, slots := 0, locals := 21 }) [.ref (cx_b G + ly_loc 8 0), .int p1] I J (ct_qi G n z.1 J z.2) := by
  refine ct_en (by decide) (Nat.le_of_ble_eq_true rfl) ?_
  intro p e s m args below meth c ls X S hl
  have X : cx_ok G p s m args meth c cX8_feed 2 RX8 (some .int) := X
  have hl : lv_has ls 2 [(0, .ref (cx_b G + ly_loc 8 0)), (1, .int p1)] := hl
  unfold f_X8_feed at h
  refine lv_iload_n X.1 X.2.1 dX8_feed_0 rfl (lv_at hl 1 rfl) ?_
  refine lv_if_lt (tgt := 11) X.1 X.2.1 dX8_feed_1 (by decide) (fun c_1 => ?_) (fun c_1 => ?_)
  · have h := pz_t c_1 h
    refine lv_bipush (v := -2) X.1 X.2.1 dX8_feed_11 (by decide) ?_
    cases h
    exact r_iret X S dX8_feed_13
  have h := pz_f c_1 h
  refine lv_iload_n X.1 X.2.1 dX8_feed_4 rfl (lv_at hl 1 rfl) ?_
  refine lv_sipush (v := 255) X.1 X.2.1 dX8_feed_5 (by decide) ?_
  refine lv_icmp_le (tgt := 14) X.1 X.2.1 dX8_feed_8 (by decide) (fun c_2 => ?_) (fun c_2 => ?_)
  · have h := pz_t c_2 h
    refine lv_aload_n X.1 X.2.1 dX8_feed_14 rfl (lv_at hl 0 rfl) ?_
    refine gf_X8_22 X S (by decide) dX8_feed_15 ?_
    refine lv_iload_n X.1 X.2.1 dX8_feed_18 rfl (lv_at hl 1 rfl) ?_
    obtain ⟨q_3, eq_3, h⟩ := pz_bd_e h
    refine r_Vi X S (c_X3_add eq_3) gd_X8_66 ⟨rfl, ny_X3_add⟩ ⟨rfl, rfl⟩ ⟨Nat.le_of_ble_eq_true rfl, Nat.le_of_ble_eq_true rfl⟩ (r_recv X S (ly_ok_3 (by decide) S.2.2.2) rfl rfl) rfl rfl hl.1 (Nat.le_of_ble_eq_true rfl) dX8_feed_19 (fun H locs S => ?_)
    refine lv_if_eq (tgt := 35) X.1 X.2.1 dX8_feed_22 (by decide) (fun c_4 => ?_) (fun c_4 => ?_)
    · have h := pz_t c_4 h
      refine lv_bipush (v := -4) X.1 X.2.1 dX8_feed_35 (by decide) ?_
      cases h
      exact r_iret X S dX8_feed_37
    have h := pz_f c_4 h
    refine lv_aload_n X.1 X.2.1 dX8_feed_25 rfl (lv_at hl 0 rfl) ?_
    refine gf_X8_22 X S (by decide) dX8_feed_26 ?_
    refine gf_X8_118 X S (by decide) dX8_feed_29 ?_
    refine lv_goto (tgt := 37) X.1 X.2.1 dX8_feed_32 (by decide) ?_
    cases h
    exact r_iret X S dX8_feed_37
  have h := pz_f c_2 h
  refine lv_bipush (v := -2) X.1 X.2.1 dX8_feed_11 (by decide) ?_
  cases h
  exact r_iret X S dX8_feed_13
def f_X8_force (N n : Nat) (I : mm_T) (p1 : Int32) : Option (mm_T × Int32) := if p1 < 0 then (some (I, (-2 : Int32))) else (if p1 < (I 8 0 5) then (pz_lt (I 1 0 6) fun x_3 => pz_bd (f_X1_follow N n I 0 p1) fun q_4 => some (q_4, x_3)) else (some (I, (-2 : Int32))))
set_option maxRecDepth 100000 in
set_option maxHeartbeats 4000000 in
theorem c_X8_force {l : Launch} {G : cx_T} {N n : Nat} {I J : mm_T} {p1 : Int32} (hn : 144 ≤ n) {z : mm_T × Int32} (h : f_X8_force N n I p1 = some z) : ct_m l G n yX8_force cX8_force 3 (some .int) ({ frames := 1, cells := 0, slots := 0, locals := 21 }) [.ref (cx_b G + ly_loc 8 0), .int p1] I J (ct_qi G n z.1 J z.2) := by
  refine ct_en (by decide) (Nat.le_of_ble_eq_true rfl) ?_
  intro p e s m args below meth c ls X S hl
  have X : cx_ok G p s m args meth c cX8_force 3 RX8 (some .int) := X
  have hl : lv_has ls 3 [(0, .ref (cx_b G + ly_loc 8 0)), (1, .int p1)] := hl
  unfold f_X8_force at h
  refine lv_iload_n X.1 X.2.1 dX8_force_0 rfl (lv_at hl 1 rfl) ?_
  refine lv_if_lt (tgt := 12) X.1 X.2.1 dX8_force_1 (by decide) (fun c_1 => ?_) (fun c_1 => ?_)
  · have h := pz_t c_1 h
    refine lv_bipush (v := -2) X.1 X.2.1 dX8_force_12 (by decide) ?_
    cases h
    exact r_iret X S dX8_force_14
  have h := pz_f c_1 h
  refine lv_iload_n X.1 X.2.1 dX8_force_4 rfl (lv_at hl 1 rfl) ?_
  refine lv_aload_n X.1 X.2.1 dX8_force_5 rfl (lv_at hl 0 rfl) ?_
  refine gf_X8_78 X S (by decide) dX8_force_6 ?_
  refine lv_icmp_lt (tgt := 15) X.1 X.2.1 dX8_force_9 (by decide) (fun c_2 => ?_) (fun c_2 => ?_)
  · have h := pz_t c_2 h
    refine lv_aload_n X.1 X.2.1 dX8_force_15 rfl (lv_at hl 0 rfl) ?_
    refine gf_X8_10 X S (by decide) dX8_force_16 ?_
    refine gf_X8_124 X S (by decide) dX8_force_19 ?_
    refine lv_topi (fun x_3 ex_3 => ?_)
    have h := pz_lt_e h ex_3
    refine lv_istore_n (lv' := [(2, .int x_3), (0, .ref (cx_b G + ly_loc 8 0)), (1, .int p1)]) X.1 X.2.1 dX8_force_22 rfl hl (by decide) rfl (fun ls hl => ?_)
    refine lv_aload_n X.1 X.2.1 dX8_force_23 rfl (lv_at hl 1 rfl) ?_
    refine gf_X8_10 X S (by decide) dX8_force_24 ?_
    refine lv_iload_n X.1 X.2.1 dX8_force_27 rfl (lv_at hl 2 rfl) ?_
    obtain ⟨q_4, eq_4, h⟩ := pz_bd_e h
    refine r_Vv X S (c_X1_follow hn (by decide) eq_4) gd_X8_127 ⟨rfl, ny_X1_follow⟩ ⟨rfl, rfl⟩ ⟨Nat.le_of_ble_eq_true rfl, Nat.le_of_ble_eq_true rfl⟩ (r_recv X S (ly_ok_1 (by decide) S.2.2.2) rfl rfl) rfl rfl hl.1 (Nat.le_of_ble_eq_true rfl) dX8_force_28 (fun H locs S => ?_)
    refine lv_iload_n X.1 X.2.1 dX8_force_31 rfl (lv_at hl 0 rfl) ?_
    cases h
    exact r_iret X S dX8_force_32
  have h := pz_f c_2 h
  refine lv_bipush (v := -2) X.1 X.2.1 dX8_force_12 (by decide) ?_
  cases h
  exact r_iret X S dX8_force_14
def f_X8_rule (N n : Nat) (I : mm_T) : Option (Int32) := pz_gd (ix_in (I 1 0 6) 6) <| pz_gd (decide (¬ (I 20 0 (I 1 0 6).toNatClampNeg) = -1)) <| some (I 20 0 (I 1 0 6).toNatClampNeg)
set_option maxRecDepth 100000 in
set_option maxHeartbeats 4000000 in
theorem c_X8_rule {l : Launch} {G : cx_T} {N n : Nat} {I J : mm_T} (hn : 144 ≤ n) {z : Int32} (h : f_X8_rule N n I = some z) : ct_m l G n yX8_rule cX8_rule 1 (some (.object "WhoSingsNext$Text")) ({ frames := 0, cells := 0, slots := 0, locals := 0 }) [.ref (cx_b G + ly_loc 8 0)] I J (ct_qr G n I J (cx_b G + ly_loc 7 z.toNatClampNeg)) := by
  refine ct_en (by decide) (Nat.le_of_ble_eq_true rfl) ?_
  intro p e s m args below meth c ls X S hl
  have X : cx_ok G p s m args meth c cX8_rule 1 RX8 (some (.object "WhoSingsNext$Text")) := X
  have hl : lv_has ls 1 [(0, .ref (cx_b G + ly_loc 8 0))] := hl
  unfold f_X8_rule at h
  refine lv_aload_n X.1 X.2.1 dX8_rule_0 rfl (lv_at hl 0 rfl) ?_
  refine gf_X8_28 X S (by decide) dX8_rule_1 ?_
  refine lv_aload_n X.1 X.2.1 dX8_rule_4 rfl (lv_at hl 0 rfl) ?_
  refine gf_X8_10 X S (by decide) dX8_rule_5 ?_
  refine gf_X8_124 X S (by decide) dX8_rule_8 ?_
  obtain ⟨g_1, h⟩ := pz_gd_e h
  obtain ⟨g_2, h⟩ := pz_gd_e h
  refine aa_20 X S (by decide) g_1 (of_decide_eq_true g_2) dX8_rule_11 ?_
  cases h
  exact r_aret X S dX8_rule_12
def f_X8_evening (N n : Nat) (I : mm_T) (p1 : Int32) (p2 : Int32) : Option (mm_T × Int32) := pz_bd (f_X1_isRow N n I 0 p1) fun q_1 => if q_1 = 0 then (some (I, (-100000 : Int32))) else (if p2 < 0 then (some (I, (-100000 : Int32))) else (if p2 ≤ (5 : Int32) then (pz_bd (f_X8_rule N n I) fun q_5 => pz_bd (f_X0_begin N n I 0 q_5) fun q_6 => pz_bd (f_X0_callRow N n q_6 0 p1) fun q_7 => pz_bd (f_X0_answer N n q_7 0 p2) fun q_8 => some (q_7, q_8)) else (some (I, (-100000 : Int32)))))
set_option maxRecDepth 100000 in
set_option maxHeartbeats 4000000 in
theorem c_X8_evening {l : Launch} {G : cx_T} {N n : Nat} {I J : mm_T} {p1 : Int32} {p2 : Int32} (hn : 144 ≤ n) {z : mm_T × Int32} (h : f_X8_evening N n I p1 p2 = some z) : ct_m l G n yX8_evening cX8_evening 3 (some .int) ({ frames := 5, cells := 0, slots := 0, locals := 152 }) [.ref (cx_b G + ly_loc 8 0), .int p1, .int p2] I J (ct_qi G n z.1 J z.2) := by
  refine ct_en (by decide) (Nat.le_of_ble_eq_true rfl) ?_
  intro p e s m args below meth c ls X S hl
  have X : cx_ok G p s m args meth c cX8_evening 3 RX8 (some .int) := X
  have hl : lv_has ls 3 [(0, .ref (cx_b G + ly_loc 8 0)), (1, .int p1), (2, .int p2)] := hl
  unfold f_X8_evening at h
  refine lv_aload_n X.1 X.2.1 dX8_evening_0 rfl (lv_at hl 0 rfl) ?_
  refine gf_X8_10 X S (by decide) dX8_evening_1 ?_
  refine lv_iload_n X.1 X.2.1 dX8_evening_4 rfl (lv_at hl 1 rfl) ?_
  obtain ⟨q_1, eq_1, h⟩ := pz_bd_e h
  refine r_Vi X S (c_X1_isRow hn (by decide) eq_1) gd_X8_131 ⟨rfl, ny_X1_isRow⟩ ⟨rfl, rfl⟩ ⟨Nat.le_of_ble_eq_true rfl, Nat.le_of_ble_eq_true rfl⟩ (r_recv X S (ly_ok_1 (by decide) S.2.2.2) rfl rfl) rfl rfl hl.1 (Nat.le_of_ble_eq_true rfl) dX8_evening_5 (fun H locs S => ?_)
  refine lv_if_eq (tgt := 20) X.1 X.2.1 dX8_evening_8 (by decide) (fun c_2 => ?_) (fun c_2 => ?_)
  · have h := pz_t c_2 h
    refine lv_ldc (v := -100000) X.1 X.2.1 X.2.2.2.1 (X.2.2.2.2.1 _ kw_X8_98) dX8_evening_20 ?_
    cases h
    exact r_iret X S dX8_evening_22
  have h := pz_f c_2 h
  refine lv_iload_n X.1 X.2.1 dX8_evening_11 rfl (lv_at hl 2 rfl) ?_
  refine lv_if_lt (tgt := 20) X.1 X.2.1 dX8_evening_12 (by decide) (fun c_3 => ?_) (fun c_3 => ?_)
  · have h := pz_t c_3 h
    refine lv_ldc (v := -100000) X.1 X.2.1 X.2.2.2.1 (X.2.2.2.2.1 _ kw_X8_98) dX8_evening_20 ?_
    cases h
    exact r_iret X S dX8_evening_22
  have h := pz_f c_3 h
  refine lv_iload_n X.1 X.2.1 dX8_evening_15 rfl (lv_at hl 2 rfl) ?_
  refine lv_iconst (v := 5) X.1 X.2.1 dX8_evening_16 (by decide) ?_
  refine lv_icmp_le (tgt := 23) X.1 X.2.1 dX8_evening_17 (by decide) (fun c_4 => ?_) (fun c_4 => ?_)
  · have h := pz_t c_4 h
    refine lv_aload_n X.1 X.2.1 dX8_evening_23 rfl (lv_at hl 0 rfl) ?_
    refine gf_X8_37 X S (by decide) dX8_evening_24 ?_
    refine lv_aload_n X.1 X.2.1 dX8_evening_27 rfl (lv_at hl 0 rfl) ?_
    obtain ⟨q_5, eq_5, h⟩ := pz_bd_e h
    refine r_Vr X S (c_X8_rule hn eq_5) gd_X8_134 ⟨rfl, ny_X8_rule⟩ ⟨rfl, rfl⟩ ⟨Nat.le_of_ble_eq_true rfl, Nat.le_of_ble_eq_true rfl⟩ (r_recv X S (ly_ok_8 (by decide) S.2.2.2) rfl rfl) rfl rfl hl.1 (Nat.le_of_ble_eq_true rfl) dX8_evening_28 (fun H locs S => ?_)
    obtain ⟨q_6, eq_6, h⟩ := pz_bd_e h
    refine r_Vv X S (c_X0_begin hn (by decide) eq_6) gd_X8_136 ⟨rfl, ny_X0_begin⟩ ⟨rfl, rfl⟩ ⟨Nat.le_of_ble_eq_true rfl, Nat.le_of_ble_eq_true rfl⟩ (r_recv X S (ly_ok_0 (by decide) S.2.2.2) rfl rfl) rfl rfl hl.1 (Nat.le_of_ble_eq_true rfl) dX8_evening_31 (fun H locs S => ?_)
    refine lv_aload_n X.1 X.2.1 dX8_evening_34 rfl (lv_at hl 0 rfl) ?_
    refine gf_X8_37 X S (by decide) dX8_evening_35 ?_
    refine lv_iload_n X.1 X.2.1 dX8_evening_38 rfl (lv_at hl 1 rfl) ?_
    obtain ⟨q_7, eq_7, h⟩ := pz_bd_e h
    refine r_Vv X S (c_X0_callRow hn (by decide) eq_7) gd_X8_140 ⟨rfl, ny_X0_callRow⟩ ⟨rfl, rfl⟩ ⟨Nat.le_of_ble_eq_true rfl, Nat.le_of_ble_eq_true rfl⟩ (r_recv X S (ly_ok_0 (by decide) S.2.2.2) rfl rfl) rfl rfl hl.1 (Nat.le_of_ble_eq_true rfl) dX8_evening_39 (fun H locs S => ?_)
    refine lv_aload_n X.1 X.2.1 dX8_evening_42 rfl (lv_at hl 0 rfl) ?_
    refine gf_X8_37 X S (by decide) dX8_evening_43 ?_
    refine lv_iload_n X.1 X.2.1 dX8_evening_46 rfl (lv_at hl 2 rfl) ?_
    obtain ⟨q_8, eq_8, h⟩ := pz_bd_e h
    refine r_Vi X S (c_X0_answer hn (by decide) eq_8) gd_X8_143 ⟨rfl, ny_X0_answer⟩ ⟨rfl, rfl⟩ ⟨Nat.le_of_ble_eq_true rfl, Nat.le_of_ble_eq_true rfl⟩ (r_recv X S (ly_ok_0 (by decide) S.2.2.2) rfl rfl) rfl rfl hl.1 (Nat.le_of_ble_eq_true rfl) dX8_evening_47 (fun H locs S => ?_)
    cases h
    exact r_iret X S dX8_evening_50
  have h := pz_f c_4 h
  refine lv_ldc (v := -100000) X.1 X.2.1 X.2.2.2.1 (X.2.2.2.2.1 _ kw_X8_98) dX8_evening_20 ?_
  cases h
  exact r_iret X S dX8_evening_22
def f_X8_best (N n : Nat) (I : mm_T) (p1 : Int32) (p2 : Int32) : Option (mm_T × Int32) := if p1 < 0 then (some (I, (-2 : Int32))) else (if (2 : Int32) ≤ p1 then (some (I, (-2 : Int32))) else (if p2 < 0 then (some (I, (-2 : Int32))) else (if p2 < (4 : Int32) then (pz_bd (f_X8_rule N n I) fun q_5 => pz_bd (f_X4_look N n I q_5) fun q_6 => pz_bd (f_X4_answer N n q_6 p1 p2) fun q_7 => some (q_6, q_7)) else (some (I, (-2 : Int32))))))
set_option maxRecDepth 100000 in
set_option maxHeartbeats 4000000 in
theorem c_X8_best {l : Launch} {G : cx_T} {N n : Nat} {I J : mm_T} {p1 : Int32} {p2 : Int32} (hn : 144 ≤ n) {z : mm_T × Int32} (h : f_X8_best N n I p1 p2 = some z) : ct_m l G n yX8_best cX8_best 3 (some .int) ({ frames := 26, cells := 0, slots := 0, locals := 976 }) [.ref (cx_b G + ly_loc 8 0), .int p1, .int p2] I J (ct_qi G n z.1 J z.2) := by
  refine ct_en (by decide) (Nat.le_of_ble_eq_true rfl) ?_
  intro p e s m args below meth c ls X S hl
  have X : cx_ok G p s m args meth c cX8_best 3 RX8 (some .int) := X
  have hl : lv_has ls 3 [(0, .ref (cx_b G + ly_loc 8 0)), (1, .int p1), (2, .int p2)] := hl
  unfold f_X8_best at h
  refine lv_iload_n X.1 X.2.1 dX8_best_0 rfl (lv_at hl 1 rfl) ?_
  refine lv_if_lt (tgt := 18) X.1 X.2.1 dX8_best_1 (by decide) (fun c_1 => ?_) (fun c_1 => ?_)
  · have h := pz_t c_1 h
    refine lv_bipush (v := -2) X.1 X.2.1 dX8_best_18 (by decide) ?_
    cases h
    exact r_iret X S dX8_best_20
  have h := pz_f c_1 h
  refine lv_iload_n X.1 X.2.1 dX8_best_4 rfl (lv_at hl 1 rfl) ?_
  refine lv_iconst (v := 2) X.1 X.2.1 dX8_best_5 (by decide) ?_
  refine lv_icmp_ge (tgt := 18) X.1 X.2.1 dX8_best_6 (by decide) (fun c_2 => ?_) (fun c_2 => ?_)
  · have h := pz_t c_2 h
    refine lv_bipush (v := -2) X.1 X.2.1 dX8_best_18 (by decide) ?_
    cases h
    exact r_iret X S dX8_best_20
  have h := pz_f c_2 h
  refine lv_iload_n X.1 X.2.1 dX8_best_9 rfl (lv_at hl 2 rfl) ?_
  refine lv_if_lt (tgt := 18) X.1 X.2.1 dX8_best_10 (by decide) (fun c_3 => ?_) (fun c_3 => ?_)
  · have h := pz_t c_3 h
    refine lv_bipush (v := -2) X.1 X.2.1 dX8_best_18 (by decide) ?_
    cases h
    exact r_iret X S dX8_best_20
  have h := pz_f c_3 h
  refine lv_iload_n X.1 X.2.1 dX8_best_13 rfl (lv_at hl 2 rfl) ?_
  refine lv_iconst (v := 4) X.1 X.2.1 dX8_best_14 (by decide) ?_
  refine lv_icmp_lt (tgt := 21) X.1 X.2.1 dX8_best_15 (by decide) (fun c_4 => ?_) (fun c_4 => ?_)
  · have h := pz_t c_4 h
    refine lv_aload_n X.1 X.2.1 dX8_best_21 rfl (lv_at hl 0 rfl) ?_
    refine gf_X8_44 X S (by decide) dX8_best_22 ?_
    refine lv_aload_n X.1 X.2.1 dX8_best_25 rfl (lv_at hl 0 rfl) ?_
    obtain ⟨q_5, eq_5, h⟩ := pz_bd_e h
    refine r_Vr X S (c_X8_rule hn eq_5) gd_X8_134 ⟨rfl, ny_X8_rule⟩ ⟨rfl, rfl⟩ ⟨Nat.le_of_ble_eq_true rfl, Nat.le_of_ble_eq_true rfl⟩ (r_recv X S (ly_ok_8 (by decide) S.2.2.2) rfl rfl) rfl rfl hl.1 (Nat.le_of_ble_eq_true rfl) dX8_best_26 (fun H locs S => ?_)
    obtain ⟨q_6, eq_6, h⟩ := pz_bd_e h
    refine r_Vv X S (c_X4_look hn eq_6) gd_X8_147 ⟨rfl, ny_X4_look⟩ ⟨rfl, rfl⟩ ⟨Nat.le_of_ble_eq_true rfl, Nat.le_of_ble_eq_true rfl⟩ (r_recv X S (ly_ok_4 (by decide) S.2.2.2) rfl rfl) rfl rfl hl.1 (Nat.le_of_ble_eq_true rfl) dX8_best_29 (fun H locs S => ?_)
    refine lv_aload_n X.1 X.2.1 dX8_best_32 rfl (lv_at hl 0 rfl) ?_
    refine gf_X8_44 X S (by decide) dX8_best_33 ?_
    refine lv_iload_n X.1 X.2.1 dX8_best_36 rfl (lv_at hl 1 rfl) ?_
    refine lv_iload_n X.1 X.2.1 dX8_best_37 rfl (lv_at hl 2 rfl) ?_
    obtain ⟨q_7, eq_7, h⟩ := pz_bd_e h
    refine r_Vi X S (c_X4_answer hn eq_7) gd_X8_150 ⟨rfl, ny_X4_answer⟩ ⟨rfl, rfl⟩ ⟨Nat.le_of_ble_eq_true rfl, Nat.le_of_ble_eq_true rfl⟩ (r_recv X S (ly_ok_4 (by decide) S.2.2.2) rfl rfl) rfl rfl hl.1 (Nat.le_of_ble_eq_true rfl) dX8_best_38 (fun H locs S => ?_)
    cases h
    exact r_iret X S dX8_best_41
  have h := pz_f c_4 h
  refine lv_bipush (v := -2) X.1 X.2.1 dX8_best_18 (by decide) ?_
  cases h
  exact r_iret X S dX8_best_20
def f_X8_runDesk (N n : Nat) (I : mm_T) (t1 : Int32) (p2 : Int32) : Option (mm_T) := pz_bd (f_X0_begin N n I 0 t1) fun q_1 => pz_bd (f_X0_leaveOut N n q_1 0 p2) fun q_2 => pz_bd (f_X0_callByDesk N n q_2 0) fun q_3 => some q_3
set_option maxRecDepth 100000 in
set_option maxHeartbeats 4000000 in
theorem c_X8_runDesk {l : Launch} {G : cx_T} {N n : Nat} {I J : mm_T} {t1 : Int32} {p2 : Int32} (hn : 144 ≤ n) {z : mm_T} (h : f_X8_runDesk N n I t1 p2 = some z) : ct_m l G n yX8_runDesk cX8_runDesk 3 none ({ frames := 5, cells := 0, slots := 0, locals := 151 }) [.ref (cx_b G + ly_loc 8 0), .ref (cx_b G + ly_loc 7 t1.toNatClampNeg), .int p2] I J (ct_qv G n z J) := by
  refine ct_en (by decide) (Nat.le_of_ble_eq_true rfl) ?_
  intro p e s m args below meth c ls X S hl
  have X : cx_ok G p s m args meth c cX8_runDesk 3 RX8 none := X
  have hl : lv_has ls 3 [(0, .ref (cx_b G + ly_loc 8 0)), (1, .ref (cx_b G + ly_loc 7 t1.toNatClampNeg)), (2, .int p2)] := hl
  unfold f_X8_runDesk at h
  refine lv_aload_n X.1 X.2.1 dX8_runDesk_0 rfl (lv_at hl 0 rfl) ?_
  refine gf_X8_37 X S (by decide) dX8_runDesk_1 ?_
  refine lv_aload_n X.1 X.2.1 dX8_runDesk_4 rfl (lv_at hl 1 rfl) ?_
  obtain ⟨q_1, eq_1, h⟩ := pz_bd_e h
  refine r_Vv X S (c_X0_begin hn (by decide) eq_1) gd_X8_136 ⟨rfl, ny_X0_begin⟩ ⟨rfl, rfl⟩ ⟨Nat.le_of_ble_eq_true rfl, Nat.le_of_ble_eq_true rfl⟩ (r_recv X S (ly_ok_0 (by decide) S.2.2.2) rfl rfl) rfl rfl hl.1 (Nat.le_of_ble_eq_true rfl) dX8_runDesk_5 (fun H locs S => ?_)
  refine lv_aload_n X.1 X.2.1 dX8_runDesk_8 rfl (lv_at hl 0 rfl) ?_
  refine gf_X8_37 X S (by decide) dX8_runDesk_9 ?_
  refine lv_iload_n X.1 X.2.1 dX8_runDesk_12 rfl (lv_at hl 2 rfl) ?_
  obtain ⟨q_2, eq_2, h⟩ := pz_bd_e h
  refine r_Vv X S (c_X0_leaveOut hn (by decide) eq_2) gd_X8_238 ⟨rfl, ny_X0_leaveOut⟩ ⟨rfl, rfl⟩ ⟨Nat.le_of_ble_eq_true rfl, Nat.le_of_ble_eq_true rfl⟩ (r_recv X S (ly_ok_0 (by decide) S.2.2.2) rfl rfl) rfl rfl hl.1 (Nat.le_of_ble_eq_true rfl) dX8_runDesk_13 (fun H locs S => ?_)
  refine lv_aload_n X.1 X.2.1 dX8_runDesk_16 rfl (lv_at hl 0 rfl) ?_
  refine gf_X8_37 X S (by decide) dX8_runDesk_17 ?_
  obtain ⟨q_3, eq_3, h⟩ := pz_bd_e h
  refine r_Vv X S (c_X0_callByDesk hn (by decide) eq_3) gd_X8_172 ⟨rfl, ny_X0_callByDesk⟩ ⟨rfl, rfl⟩ ⟨Nat.le_of_ble_eq_true rfl, Nat.le_of_ble_eq_true rfl⟩ (r_recv X S (ly_ok_0 (by decide) S.2.2.2) rfl rfl) rfl rfl hl.1 (Nat.le_of_ble_eq_true rfl) dX8_runDesk_20 (fun H locs S => ?_)
  cases h
  exact r_vret X S dX8_runDesk_23
def f_X8_desk (N n : Nat) (I : mm_T) (p1 : Int32) : Option (mm_T × Int32) := if p1 < 0 then (some (I, (-100000 : Int32))) else (if p1 ≤ (6 : Int32) then (pz_bd (f_X8_rule N n I) fun q_3 => pz_bd (f_X8_runDesk N n I q_3 (-1 : Int32)) fun q_4 => pz_bd (f_X0_answer N n q_4 0 p1) fun q_5 => some (q_4, q_5)) else (some (I, (-100000 : Int32))))
set_option maxRecDepth 100000 in
set_option maxHeartbeats 4000000 in
theorem c_X8_desk {l : Launch} {G : cx_T} {N n : Nat} {I J : mm_T} {p1 : Int32} (hn : 144 ≤ n) {z : mm_T × Int32} (h : f_X8_desk N n I p1 = some z) : ct_m l G n yX8_desk cX8_desk 2 (some .int) ({ frames := 6, cells := 0, slots := 0, locals := 173 }) [.ref (cx_b G + ly_loc 8 0), .int p1] I J (ct_qi G n z.1 J z.2) := by
  refine ct_en (by decide) (Nat.le_of_ble_eq_true rfl) ?_
  intro p e s m args below meth c ls X S hl
  have X : cx_ok G p s m args meth c cX8_desk 2 RX8 (some .int) := X
  have hl : lv_has ls 2 [(0, .ref (cx_b G + ly_loc 8 0)), (1, .int p1)] := hl
  unfold f_X8_desk at h
  refine lv_iload_n X.1 X.2.1 dX8_desk_0 rfl (lv_at hl 1 rfl) ?_
  refine lv_if_lt (tgt := 10) X.1 X.2.1 dX8_desk_1 (by decide) (fun c_1 => ?_) (fun c_1 => ?_)
  · have h := pz_t c_1 h
    refine lv_ldc (v := -100000) X.1 X.2.1 X.2.2.2.1 (X.2.2.2.2.1 _ kw_X8_98) dX8_desk_10 ?_
    cases h
    exact r_iret X S dX8_desk_12
  have h := pz_f c_1 h
  refine lv_iload_n X.1 X.2.1 dX8_desk_4 rfl (lv_at hl 1 rfl) ?_
  refine lv_bipush (v := 6) X.1 X.2.1 dX8_desk_5 (by decide) ?_
  refine lv_icmp_le (tgt := 13) X.1 X.2.1 dX8_desk_7 (by decide) (fun c_2 => ?_) (fun c_2 => ?_)
  · have h := pz_t c_2 h
    refine lv_aload_n X.1 X.2.1 dX8_desk_13 rfl (lv_at hl 0 rfl) ?_
    refine lv_aload_n X.1 X.2.1 dX8_desk_14 rfl (lv_at hl 0 rfl) ?_
    obtain ⟨q_3, eq_3, h⟩ := pz_bd_e h
    refine r_Vr X S (c_X8_rule hn eq_3) gd_X8_134 ⟨rfl, ny_X8_rule⟩ ⟨rfl, rfl⟩ ⟨Nat.le_of_ble_eq_true rfl, Nat.le_of_ble_eq_true rfl⟩ (r_recv X S (ly_ok_8 (by decide) S.2.2.2) rfl rfl) rfl rfl hl.1 (Nat.le_of_ble_eq_true rfl) dX8_desk_15 (fun H locs S => ?_)
    refine lv_iconst (v := -1) X.1 X.2.1 dX8_desk_18 (by decide) ?_
    obtain ⟨q_4, eq_4, h⟩ := pz_bd_e h
    refine r_Vv X S (c_X8_runDesk hn eq_4) gd_X8_152 ⟨rfl, ny_X8_runDesk⟩ ⟨rfl, rfl⟩ ⟨Nat.le_of_ble_eq_true rfl, Nat.le_of_ble_eq_true rfl⟩ (r_recv X S (ly_ok_8 (by decide) S.2.2.2) rfl rfl) rfl rfl hl.1 (Nat.le_of_ble_eq_true rfl) dX8_desk_19 (fun H locs S => ?_)
    refine lv_aload_n X.1 X.2.1 dX8_desk_22 rfl (lv_at hl 0 rfl) ?_
    refine gf_X8_37 X S (by decide) dX8_desk_23 ?_
    refine lv_iload_n X.1 X.2.1 dX8_desk_26 rfl (lv_at hl 1 rfl) ?_
    obtain ⟨q_5, eq_5, h⟩ := pz_bd_e h
    refine r_Vi X S (c_X0_answer hn (by decide) eq_5) gd_X8_143 ⟨rfl, ny_X0_answer⟩ ⟨rfl, rfl⟩ ⟨Nat.le_of_ble_eq_true rfl, Nat.le_of_ble_eq_true rfl⟩ (r_recv X S (ly_ok_0 (by decide) S.2.2.2) rfl rfl) rfl rfl hl.1 (Nat.le_of_ble_eq_true rfl) dX8_desk_27 (fun H locs S => ?_)
    cases h
    exact r_iret X S dX8_desk_30
  have h := pz_f c_2 h
  refine lv_ldc (v := -100000) X.1 X.2.1 X.2.2.2.1 (X.2.2.2.2.1 _ kw_X8_98) dX8_desk_10 ?_
  cases h
  exact r_iret X S dX8_desk_12
def f_X8_hold (N n : Nat) (I : mm_T) (p1 : Int32) : Option (mm_T × Int32) := pz_bd (f_X1_isRow N n I 0 p1) fun q_1 => if q_1 = 0 then (some (I, (-100000 : Int32))) else (pz_bd (f_X8_rule N n I) fun q_3 => pz_bd (f_X0_begin N n I 0 q_3) fun q_4 => pz_bd (f_X0_callRow N n q_4 0 p1) fun q_5 => pz_bd (f_X1_change N n q_5 0 (5 : Int32) (0 : Int32) (q_5 0 0 11)) fun q_6 => some (q_6, (q_6 0 0 12)))
set_option maxRecDepth 100000 in
set_option maxHeartbeats 4000000 in
theorem c_X8_hold {l : Launch} {G : cx_T} {N n : Nat} {I J : mm_T} {p1 : Int32} (hn : 144 ≤ n) {z : mm_T × Int32} (h : f_X8_hold N n I p1 = some z) : ct_m l G n yX8_hold cX8_hold 2 (some .int) ({ frames := 5, cells := 0, slots := 0, locals := 152 }) [.ref (cx_b G + ly_loc 8 0), .int p1] I J (ct_qi G n z.1 J z.2) := by
  refine ct_en (by decide) (Nat.le_of_ble_eq_true rfl) ?_
  intro p e s m args below meth c ls X S hl
  have X : cx_ok G p s m args meth c cX8_hold 2 RX8 (some .int) := X
  have hl : lv_has ls 2 [(0, .ref (cx_b G + ly_loc 8 0)), (1, .int p1)] := hl
  unfold f_X8_hold at h
  refine lv_aload_n X.1 X.2.1 dX8_hold_0 rfl (lv_at hl 0 rfl) ?_
  refine gf_X8_10 X S (by decide) dX8_hold_1 ?_
  refine lv_iload_n X.1 X.2.1 dX8_hold_4 rfl (lv_at hl 1 rfl) ?_
  obtain ⟨q_1, eq_1, h⟩ := pz_bd_e h
  refine r_Vi X S (c_X1_isRow hn (by decide) eq_1) gd_X8_131 ⟨rfl, ny_X1_isRow⟩ ⟨rfl, rfl⟩ ⟨Nat.le_of_ble_eq_true rfl, Nat.le_of_ble_eq_true rfl⟩ (r_recv X S (ly_ok_1 (by decide) S.2.2.2) rfl rfl) rfl rfl hl.1 (Nat.le_of_ble_eq_true rfl) dX8_hold_5 (fun H locs S => ?_)
  refine lv_if_ne (tgt := 14) X.1 X.2.1 dX8_hold_8 (by decide) (fun c_2 => ?_) (fun c_2 => ?_)
  · have h := pz_f c_2 h
    refine lv_aload_n X.1 X.2.1 dX8_hold_14 rfl (lv_at hl 0 rfl) ?_
    refine gf_X8_37 X S (by decide) dX8_hold_15 ?_
    refine lv_aload_n X.1 X.2.1 dX8_hold_18 rfl (lv_at hl 0 rfl) ?_
    obtain ⟨q_3, eq_3, h⟩ := pz_bd_e h
    refine r_Vr X S (c_X8_rule hn eq_3) gd_X8_134 ⟨rfl, ny_X8_rule⟩ ⟨rfl, rfl⟩ ⟨Nat.le_of_ble_eq_true rfl, Nat.le_of_ble_eq_true rfl⟩ (r_recv X S (ly_ok_8 (by decide) S.2.2.2) rfl rfl) rfl rfl hl.1 (Nat.le_of_ble_eq_true rfl) dX8_hold_19 (fun H locs S => ?_)
    obtain ⟨q_4, eq_4, h⟩ := pz_bd_e h
    refine r_Vv X S (c_X0_begin hn (by decide) eq_4) gd_X8_136 ⟨rfl, ny_X0_begin⟩ ⟨rfl, rfl⟩ ⟨Nat.le_of_ble_eq_true rfl, Nat.le_of_ble_eq_true rfl⟩ (r_recv X S (ly_ok_0 (by decide) S.2.2.2) rfl rfl) rfl rfl hl.1 (Nat.le_of_ble_eq_true rfl) dX8_hold_22 (fun H locs S => ?_)
    refine lv_aload_n X.1 X.2.1 dX8_hold_25 rfl (lv_at hl 0 rfl) ?_
    refine gf_X8_37 X S (by decide) dX8_hold_26 ?_
    refine lv_iload_n X.1 X.2.1 dX8_hold_29 rfl (lv_at hl 1 rfl) ?_
    obtain ⟨q_5, eq_5, h⟩ := pz_bd_e h
    refine r_Vv X S (c_X0_callRow hn (by decide) eq_5) gd_X8_140 ⟨rfl, ny_X0_callRow⟩ ⟨rfl, rfl⟩ ⟨Nat.le_of_ble_eq_true rfl, Nat.le_of_ble_eq_true rfl⟩ (r_recv X S (ly_ok_0 (by decide) S.2.2.2) rfl rfl) rfl rfl hl.1 (Nat.le_of_ble_eq_true rfl) dX8_hold_30 (fun H locs S => ?_)
    refine lv_aload_n X.1 X.2.1 dX8_hold_33 rfl (lv_at hl 0 rfl) ?_
    refine gf_X8_10 X S (by decide) dX8_hold_34 ?_
    refine lv_iconst (v := 5) X.1 X.2.1 dX8_hold_37 (by decide) ?_
    refine lv_iconst (v := 0) X.1 X.2.1 dX8_hold_38 (by decide) ?_
    refine lv_aload_n X.1 X.2.1 dX8_hold_39 rfl (lv_at hl 0 rfl) ?_
    refine gf_X8_37 X S (by decide) dX8_hold_40 ?_
    refine gf_X8_156 X S (by decide) dX8_hold_43 ?_
    obtain ⟨q_6, eq_6, h⟩ := pz_bd_e h
    refine r_Vv X S (c_X1_change hn (by decide) eq_6) gd_X8_102 ⟨rfl, ny_X1_change⟩ ⟨rfl, rfl⟩ ⟨Nat.le_of_ble_eq_true rfl, Nat.le_of_ble_eq_true rfl⟩ (r_recv X S (ly_ok_1 (by decide) S.2.2.2) rfl rfl) rfl rfl hl.1 (Nat.le_of_ble_eq_true rfl) dX8_hold_46 (fun H locs S => ?_)
    refine lv_aload_n X.1 X.2.1 dX8_hold_49 rfl (lv_at hl 0 rfl) ?_
    refine gf_X8_37 X S (by decide) dX8_hold_50 ?_
    refine gf_X8_159 X S (by decide) dX8_hold_53 ?_
    cases h
    exact r_iret X S dX8_hold_56
  have h := pz_t c_2 h
  refine lv_ldc (v := -100000) X.1 X.2.1 X.2.2.2.1 (X.2.2.2.2.1 _ kw_X8_98) dX8_hold_11 ?_
  cases h
  exact r_iret X S dX8_hold_13
def f_X8_wait (N n : Nat) (I : mm_T) (p1 : Int32) : Option (mm_T × Int32) := pz_bd (f_X1_hasSlip N n I 0 p1) fun q_1 => if q_1 = 0 then (some (I, (-2 : Int32))) else (pz_bd (f_X8_rule N n I) fun q_3 => pz_bd (f_X8_runDesk N n I q_3 (-1 : Int32)) fun q_4 => pz_gd (ix_in p1 7) <| some (q_4, (q_4 15 0 p1.toNatClampNeg)))
set_option maxRecDepth 100000 in
set_option maxHeartbeats 4000000 in
theorem c_X8_wait {l : Launch} {G : cx_T} {N n : Nat} {I J : mm_T} {p1 : Int32} (hn : 144 ≤ n) {z : mm_T × Int32} (h : f_X8_wait N n I p1 = some z) : ct_m l G n yX8_wait cX8_wait 2 (some .int) ({ frames := 6, cells := 0, slots := 0, locals := 173 }) [.ref (cx_b G + ly_loc 8 0), .int p1] I J (ct_qi G n z.1 J z.2) := by
  refine ct_en (by decide) (Nat.le_of_ble_eq_true rfl) ?_
  intro p e s m args below meth c ls X S hl
  have X : cx_ok G p s m args meth c cX8_wait 2 RX8 (some .int) := X
  have hl : lv_has ls 2 [(0, .ref (cx_b G + ly_loc 8 0)), (1, .int p1)] := hl
  unfold f_X8_wait at h
  refine lv_aload_n X.1 X.2.1 dX8_wait_0 rfl (lv_at hl 0 rfl) ?_
  refine gf_X8_10 X S (by decide) dX8_wait_1 ?_
  refine lv_iload_n X.1 X.2.1 dX8_wait_4 rfl (lv_at hl 1 rfl) ?_
  obtain ⟨q_1, eq_1, h⟩ := pz_bd_e h
  refine r_Vi X S (c_X1_hasSlip hn (by decide) eq_1) gd_X8_106 ⟨rfl, ny_X1_hasSlip⟩ ⟨rfl, rfl⟩ ⟨Nat.le_of_ble_eq_true rfl, Nat.le_of_ble_eq_true rfl⟩ (r_recv X S (ly_ok_1 (by decide) S.2.2.2) rfl rfl) rfl rfl hl.1 (Nat.le_of_ble_eq_true rfl) dX8_wait_5 (fun H locs S => ?_)
  refine lv_if_ne (tgt := 14) X.1 X.2.1 dX8_wait_8 (by decide) (fun c_2 => ?_) (fun c_2 => ?_)
  · have h := pz_f c_2 h
    refine lv_aload_n X.1 X.2.1 dX8_wait_14 rfl (lv_at hl 0 rfl) ?_
    refine lv_aload_n X.1 X.2.1 dX8_wait_15 rfl (lv_at hl 0 rfl) ?_
    obtain ⟨q_3, eq_3, h⟩ := pz_bd_e h
    refine r_Vr X S (c_X8_rule hn eq_3) gd_X8_134 ⟨rfl, ny_X8_rule⟩ ⟨rfl, rfl⟩ ⟨Nat.le_of_ble_eq_true rfl, Nat.le_of_ble_eq_true rfl⟩ (r_recv X S (ly_ok_8 (by decide) S.2.2.2) rfl rfl) rfl rfl hl.1 (Nat.le_of_ble_eq_true rfl) dX8_wait_16 (fun H locs S => ?_)
    refine lv_iconst (v := -1) X.1 X.2.1 dX8_wait_19 (by decide) ?_
    obtain ⟨q_4, eq_4, h⟩ := pz_bd_e h
    refine r_Vv X S (c_X8_runDesk hn eq_4) gd_X8_152 ⟨rfl, ny_X8_runDesk⟩ ⟨rfl, rfl⟩ ⟨Nat.le_of_ble_eq_true rfl, Nat.le_of_ble_eq_true rfl⟩ (r_recv X S (ly_ok_8 (by decide) S.2.2.2) rfl rfl) rfl rfl hl.1 (Nat.le_of_ble_eq_true rfl) dX8_wait_20 (fun H locs S => ?_)
    refine lv_aload_n X.1 X.2.1 dX8_wait_23 rfl (lv_at hl 0 rfl) ?_
    refine gf_X8_37 X S (by decide) dX8_wait_24 ?_
    refine gf_X8_162 X S (by decide) dX8_wait_27 ?_
    refine lv_iload_n X.1 X.2.1 dX8_wait_30 rfl (lv_at hl 1 rfl) ?_
    obtain ⟨g_5, h⟩ := pz_gd_e h
    refine al_15 X S (by decide) g_5 dX8_wait_31 ?_
    cases h
    exact r_iret X S dX8_wait_32
  have h := pz_t c_2 h
  refine lv_bipush (v := -2) X.1 X.2.1 dX8_wait_11 (by decide) ?_
  cases h
  exact r_iret X S dX8_wait_13
def f_X8_refuse_L78 (N n : Nat) (p1 : Int32) (k34 : mm_T → Int32 → Int32 → Int32 → Int32 → Option (mm_T × Int32)) (I : mm_T) (a1 : Int32) (a2 : Int32) (a3 : Int32) (a4 : Int32) : Option (mm_T × Int32) := pz_lt (a4 + (1 : Int32)) fun x_12 => k34 I a1 a2 a3 x_12
set_option maxRecDepth 100000 in
set_option maxHeartbeats 4000000 in
theorem w_X8_refuse_L78 {l : Launch} {G : cx_T} {p : Program} {e : Env} {s : State} {m : MethodId} {args : Array Value} {below : List Frame} {meth : Method} {c : Code} {N n : Nat} {J : mm_T} {p1 : Int32} (X : cx_ok G p s m args meth c cX8_refuse 5 RX8 (some .int)) (hn : 144 ≤ n) {k34 : mm_T → Int32 → Int32 → Int32 → Int32 → Option (mm_T × Int32)} {z : mm_T × Int32} (K34 : ∀ {I : mm_T} {a1 : Int32} {a2 : Int32} {a3 : Int32} {a4 : Int32} {H : Heap} {locs : List Loc} {ls : Array Slot}, k34 I a1 a2 a3 a4 = some z → st_ok G n I J s H locs → lv_has ls 5 [(0, .ref (cx_b G + ly_loc 8 0)), (1, .int a1), (2, .int a2), (3, .int a3), (4, .int a4)] → W p l e ({ frames := 6, cells := 0, slots := 0, locals := 173 }) s m args below meth c H locs 0 0 (MQ below (ct_qi G n z.1 J z.2) args s 0 0 (cx_A G)) (F0 m 34 ls [])) {I : mm_T} {a1 : Int32} {a2 : Int32} {a3 : Int32} {a4 : Int32} {H : Heap} {locs : List Loc} {ls : Array Slot} (h : f_X8_refuse_L78 N n p1 k34 I a1 a2 a3 a4 = some z) (S : st_ok G n I J s H locs) (hl : lv_has ls 5 [(0, .ref (cx_b G + ly_loc 8 0)), (1, .int a1), (2, .int a2), (3, .int a3), (4, .int a4)]) : W p l e ({ frames := 6, cells := 0, slots := 0, locals := 173 }) s m args below meth c H locs 0 0 (MQ below (ct_qi G n z.1 J z.2) args s 0 0 (cx_A G)) (F0 m 78 ls []) := by
  unfold f_X8_refuse_L78 at h
  obtain ⟨x_12, ex_12⟩ : ∃ y : Int32, y = (a4 + (1 : Int32)) := ⟨_, rfl⟩
  have h := pz_lt_e h ex_12
  refine lv_iinc (v := x_12) (lv' := [(4, .int x_12), (0, .ref (cx_b G + ly_loc 8 0)), (1, .int a1), (2, .int a2), (3, .int a3)]) X.1 X.2.1 dX8_refuse_78 hl (k := 4) rfl (by rw [ex_12]; rfl) (by decide) rfl (fun ls hl => ?_)
  refine lv_goto (tgt := 34) X.1 X.2.1 dX8_refuse_81 (by decide) ?_
  exact K34 h S (lv_sub hl [1, 2, 3, 4, 0] rfl)
def f_X8_refuse_L34 (N n : Nat) (p1 : Int32) : Nat → mm_T → Int32 → Int32 → Int32 → Int32 → Option (mm_T × Int32)
  | 0, _, _, _, _, _ => none
  | cnt + 1, I, a1, a2, a3, a4 => if (I 1 0 3) ≤ a4 then (if a1 = 0 then (some (I, a3)) else (some (I, a2))) else (pz_bd (f_X8_rule N n I) fun q_8 => pz_bd (f_X8_runDesk N n I q_8 a4) fun q_9 => if (q_9 0 0 12) ≤ a2 then (f_X8_refuse_L78 N n p1 (f_X8_refuse_L34 N n p1 cnt) q_9 a1 a2 a3 a4) else (pz_lt (q_9 0 0 12) fun x_11 => f_X8_refuse_L78 N n p1 (f_X8_refuse_L34 N n p1 cnt) q_9 a1 x_11 a4 a4))
set_option maxRecDepth 100000 in
set_option maxHeartbeats 4000000 in
theorem w_X8_refuse_L34 {l : Launch} {G : cx_T} {p : Program} {e : Env} {s : State} {m : MethodId} {args : Array Value} {below : List Frame} {meth : Method} {c : Code} {N n : Nat} {J : mm_T} {p1 : Int32} (X : cx_ok G p s m args meth c cX8_refuse 5 RX8 (some .int)) (hn : 144 ≤ n) {z : mm_T × Int32} : ∀ (cnt : Nat) {I : mm_T} {a1 : Int32} {a2 : Int32} {a3 : Int32} {a4 : Int32} {H : Heap} {locs : List Loc} {ls : Array Slot} , f_X8_refuse_L34 N n p1 cnt I a1 a2 a3 a4 = some z → st_ok G n I J s H locs → lv_has ls 5 [(0, .ref (cx_b G + ly_loc 8 0)), (1, .int a1), (2, .int a2), (3, .int a3), (4, .int a4)] → W p l e ({ frames := 6, cells := 0, slots := 0, locals := 173 }) s m args below meth c H locs 0 0 (MQ below (ct_qi G n z.1 J z.2) args s 0 0 (cx_A G)) (F0 m 34 ls []) := by
  intro cnt
  induction cnt with
  | zero =>
    intro I a1 a2 a3 a4 H locs ls h
    rw [f_X8_refuse_L34] at h
    cases h
  | succ cnt ih =>
    intro I a1 a2 a3 a4 H locs ls h S hl
    rw [f_X8_refuse_L34] at h
    refine lv_iload X.1 X.2.1 dX8_refuse_34 (lv_at hl 4 rfl) ?_
    refine lv_aload_n X.1 X.2.1 dX8_refuse_36 rfl (lv_at hl 0 rfl) ?_
    refine gf_X8_10 X S (by decide) dX8_refuse_37 ?_
    refine gf_X8_166 X S (by decide) dX8_refuse_40 ?_
    refine lv_icmp_ge (tgt := 84) X.1 X.2.1 dX8_refuse_43 (by decide) (fun c_6 => ?_) (fun c_6 => ?_)
    · have h := pz_t c_6 h
      refine lv_iload_n X.1 X.2.1 dX8_refuse_84 rfl (lv_at hl 1 rfl) ?_
      refine lv_if_ne (tgt := 92) X.1 X.2.1 dX8_refuse_85 (by decide) (fun c_7 => ?_) (fun c_7 => ?_)
      · have h := pz_f c_7 h
        refine lv_iload_n X.1 X.2.1 dX8_refuse_92 rfl (lv_at hl 2 rfl) ?_
        cases h
        exact r_iret X S dX8_refuse_93
      have h := pz_t c_7 h
      refine lv_iload_n X.1 X.2.1 dX8_refuse_88 rfl (lv_at hl 3 rfl) ?_
      refine lv_goto (tgt := 93) X.1 X.2.1 dX8_refuse_89 (by decide) ?_
      cases h
      exact r_iret X S dX8_refuse_93
    have h := pz_f c_6 h
    refine lv_aload_n X.1 X.2.1 dX8_refuse_46 rfl (lv_at hl 0 rfl) ?_
    refine lv_aload_n X.1 X.2.1 dX8_refuse_47 rfl (lv_at hl 0 rfl) ?_
    obtain ⟨q_8, eq_8, h⟩ := pz_bd_e h
    refine r_Vr X S (c_X8_rule hn eq_8) gd_X8_134 ⟨rfl, ny_X8_rule⟩ ⟨rfl, rfl⟩ ⟨Nat.le_of_ble_eq_true rfl, Nat.le_of_ble_eq_true rfl⟩ (r_recv X S (ly_ok_8 (by decide) S.2.2.2) rfl rfl) rfl rfl hl.1 (Nat.le_of_ble_eq_true rfl) dX8_refuse_48 (fun H locs S => ?_)
    refine lv_iload X.1 X.2.1 dX8_refuse_51 (lv_at hl 4 rfl) ?_
    obtain ⟨q_9, eq_9, h⟩ := pz_bd_e h
    refine r_Vv X S (c_X8_runDesk hn eq_9) gd_X8_152 ⟨rfl, ny_X8_runDesk⟩ ⟨rfl, rfl⟩ ⟨Nat.le_of_ble_eq_true rfl, Nat.le_of_ble_eq_true rfl⟩ (r_recv X S (ly_ok_8 (by decide) S.2.2.2) rfl rfl) rfl rfl hl.1 (Nat.le_of_ble_eq_true rfl) dX8_refuse_53 (fun H locs S => ?_)
    refine lv_aload_n X.1 X.2.1 dX8_refuse_56 rfl (lv_at hl 0 rfl) ?_
    refine gf_X8_37 X S (by decide) dX8_refuse_57 ?_
    refine gf_X8_159 X S (by decide) dX8_refuse_60 ?_
    refine lv_iload_n X.1 X.2.1 dX8_refuse_63 rfl (lv_at hl 2 rfl) ?_
    refine lv_icmp_le (tgt := 78) X.1 X.2.1 dX8_refuse_64 (by decide) (fun c_10 => ?_) (fun c_10 => ?_)
    · have h := pz_t c_10 h
      exact w_X8_refuse_L78 X hn ih h S (lv_sub hl [0, 1, 2, 3, 4] rfl)
    have h := pz_f c_10 h
    refine lv_aload_n X.1 X.2.1 dX8_refuse_67 rfl (lv_at hl 0 rfl) ?_
    refine gf_X8_37 X S (by decide) dX8_refuse_68 ?_
    refine gf_X8_159 X S (by decide) dX8_refuse_71 ?_
    refine lv_topi (fun x_11 ex_11 => ?_)
    have h := pz_lt_e h ex_11
    refine lv_istore_n (lv' := [(2, .int x_11), (0, .ref (cx_b G + ly_loc 8 0)), (1, .int a1), (3, .int a3), (4, .int a4)]) X.1 X.2.1 dX8_refuse_74 rfl hl (by decide) rfl (fun ls hl => ?_)
    refine lv_iload X.1 X.2.1 dX8_refuse_75 (lv_at hl 4 rfl) ?_
    refine lv_istore_n (lv' := [(3, .int a4), (2, .int x_11), (0, .ref (cx_b G + ly_loc 8 0)), (1, .int a1), (4, .int a4)]) X.1 X.2.1 dX8_refuse_77 rfl hl (by decide) rfl (fun ls hl => ?_)
    exact w_X8_refuse_L78 X hn ih h S (lv_sub hl [2, 3, 1, 0, 4] rfl)
def f_X8_refuse_L12 (N n : Nat) (p1 : Int32) (I : mm_T) (a1 : Int32) : Option (mm_T × Int32) := pz_bd (f_X8_rule N n I) fun q_3 => pz_bd (f_X8_runDesk N n I q_3 (-1 : Int32)) fun q_4 => pz_lt (q_4 0 0 12) fun x_5 => f_X8_refuse_L34 N n p1 N q_4 a1 x_5 (-1 : Int32) (0 : Int32)
set_option maxRecDepth 100000 in
set_option maxHeartbeats 4000000 in
theorem w_X8_refuse_L12 {l : Launch} {G : cx_T} {p : Program} {e : Env} {s : State} {m : MethodId} {args : Array Value} {below : List Frame} {meth : Method} {c : Code} {N n : Nat} {J : mm_T} {p1 : Int32} (X : cx_ok G p s m args meth c cX8_refuse 5 RX8 (some .int)) (hn : 144 ≤ n) {z : mm_T × Int32} {I : mm_T} {a1 : Int32} {H : Heap} {locs : List Loc} {ls : Array Slot} (h : f_X8_refuse_L12 N n p1 I a1 = some z) (S : st_ok G n I J s H locs) (hl : lv_has ls 5 [(0, .ref (cx_b G + ly_loc 8 0)), (1, .int a1)]) : W p l e ({ frames := 6, cells := 0, slots := 0, locals := 173 }) s m args below meth c H locs 0 0 (MQ below (ct_qi G n z.1 J z.2) args s 0 0 (cx_A G)) (F0 m 12 ls []) := by
  unfold f_X8_refuse_L12 at h
  refine lv_aload_n X.1 X.2.1 dX8_refuse_12 rfl (lv_at hl 0 rfl) ?_
  refine lv_aload_n X.1 X.2.1 dX8_refuse_13 rfl (lv_at hl 0 rfl) ?_
  obtain ⟨q_3, eq_3, h⟩ := pz_bd_e h
  refine r_Vr X S (c_X8_rule hn eq_3) gd_X8_134 ⟨rfl, ny_X8_rule⟩ ⟨rfl, rfl⟩ ⟨Nat.le_of_ble_eq_true rfl, Nat.le_of_ble_eq_true rfl⟩ (r_recv X S (ly_ok_8 (by decide) S.2.2.2) rfl rfl) rfl rfl hl.1 (Nat.le_of_ble_eq_true rfl) dX8_refuse_14 (fun H locs S => ?_)
  refine lv_iconst (v := -1) X.1 X.2.1 dX8_refuse_17 (by decide) ?_
  obtain ⟨q_4, eq_4, h⟩ := pz_bd_e h
  refine r_Vv X S (c_X8_runDesk hn eq_4) gd_X8_152 ⟨rfl, ny_X8_runDesk⟩ ⟨rfl, rfl⟩ ⟨Nat.le_of_ble_eq_true rfl, Nat.le_of_ble_eq_true rfl⟩ (r_recv X S (ly_ok_8 (by decide) S.2.2.2) rfl rfl) rfl rfl hl.1 (Nat.le_of_ble_eq_true rfl) dX8_refuse_18 (fun H locs S => ?_)
  refine lv_aload_n X.1 X.2.1 dX8_refuse_21 rfl (lv_at hl 0 rfl) ?_
  refine gf_X8_37 X S (by decide) dX8_refuse_22 ?_
  refine gf_X8_159 X S (by decide) dX8_refuse_25 ?_
  refine lv_topi (fun x_5 ex_5 => ?_)
  have h := pz_lt_e h ex_5
  refine lv_istore_n (lv' := [(2, .int x_5), (0, .ref (cx_b G + ly_loc 8 0)), (1, .int a1)]) X.1 X.2.1 dX8_refuse_28 rfl hl (by decide) rfl (fun ls hl => ?_)
  refine lv_iconst (v := -1) X.1 X.2.1 dX8_refuse_29 (by decide) ?_
  refine lv_istore_n (lv' := [(3, .int (-1 : Int32)), (2, .int x_5), (0, .ref (cx_b G + ly_loc 8 0)), (1, .int a1)]) X.1 X.2.1 dX8_refuse_30 rfl hl (by decide) rfl (fun ls hl => ?_)
  refine lv_iconst (v := 0) X.1 X.2.1 dX8_refuse_31 (by decide) ?_
  refine lv_istore (lv' := [(4, .int (0 : Int32)), (3, .int (-1 : Int32)), (2, .int x_5), (0, .ref (cx_b G + ly_loc 8 0)), (1, .int a1)]) X.1 X.2.1 dX8_refuse_32 hl (by decide) rfl (fun ls hl => ?_)
  exact w_X8_refuse_L34 X hn N h S (lv_sub hl [3, 4, 2, 1, 0] rfl)
def f_X8_refuse (N n : Nat) (I : mm_T) (p1 : Int32) : Option (mm_T × Int32) := if p1 = 0 then (f_X8_refuse_L12 N n p1 I p1) else (if p1 = (1 : Int32) then (f_X8_refuse_L12 N n p1 I p1) else (some (I, (-2 : Int32))))
set_option maxRecDepth 100000 in
set_option maxHeartbeats 4000000 in
theorem c_X8_refuse {l : Launch} {G : cx_T} {N n : Nat} {I J : mm_T} {p1 : Int32} (hn : 144 ≤ n) {z : mm_T × Int32} (h : f_X8_refuse N n I p1 = some z) : ct_m l G n yX8_refuse cX8_refuse 5 (some .int) ({ frames := 6, cells := 0, slots := 0, locals := 173 }) [.ref (cx_b G + ly_loc 8 0), .int p1] I J (ct_qi G n z.1 J z.2) := by
  refine ct_en (by decide) (Nat.le_of_ble_eq_true rfl) ?_
  intro p e s m args below meth c ls X S hl
  have X : cx_ok G p s m args meth c cX8_refuse 5 RX8 (some .int) := X
  have hl : lv_has ls 5 [(0, .ref (cx_b G + ly_loc 8 0)), (1, .int p1)] := hl
  unfold f_X8_refuse at h
  refine lv_iload_n X.1 X.2.1 dX8_refuse_0 rfl (lv_at hl 1 rfl) ?_
  refine lv_if_eq (tgt := 12) X.1 X.2.1 dX8_refuse_1 (by decide) (fun c_1 => ?_) (fun c_1 => ?_)
  · have h := pz_t c_1 h
    exact w_X8_refuse_L12 X hn h S (lv_sub hl [0, 1] rfl)
  have h := pz_f c_1 h
  refine lv_iload_n X.1 X.2.1 dX8_refuse_4 rfl (lv_at hl 1 rfl) ?_
  refine lv_iconst (v := 1) X.1 X.2.1 dX8_refuse_5 (by decide) ?_
  refine lv_icmp_eq (tgt := 12) X.1 X.2.1 dX8_refuse_6 (by decide) (fun c_2 => ?_) (fun c_2 => ?_)
  · have h := pz_t c_2 h
    exact w_X8_refuse_L12 X hn h S (lv_sub hl [0, 1] rfl)
  have h := pz_f c_2 h
  refine lv_bipush (v := -2) X.1 X.2.1 dX8_refuse_9 (by decide) ?_
  cases h
  exact r_iret X S dX8_refuse_11
def f_X8_coin (N n : Nat) (I : mm_T) (p1 : Int32) : Option (mm_T × Int32) := pz_bd (f_X1_hasSlip N n I 0 p1) fun q_1 => if q_1 = 0 then (some (I, (-100000 : Int32))) else (pz_bd (f_X8_rule N n I) fun q_3 => pz_bd (f_X8_runDesk N n I q_3 (-1 : Int32)) fun q_4 => pz_lt (q_4 0 0 12) fun x_5 => pz_bd (f_X8_rule N n q_4) fun q_6 => pz_bd (f_X0_begin N n q_4 0 q_6) fun q_7 => pz_bd (f_X0_callSlip N n q_7 0 p1) fun q_8 => pz_bd (f_X0_callByDesk N n q_8 0) fun q_9 => some (q_9, (x_5 - (q_9 0 0 12))))
set_option maxRecDepth 100000 in
set_option maxHeartbeats 4000000 in
theorem c_X8_coin {l : Launch} {G : cx_T} {N n : Nat} {I J : mm_T} {p1 : Int32} (hn : 144 ≤ n) {z : mm_T × Int32} (h : f_X8_coin N n I p1 = some z) : ct_m l G n yX8_coin cX8_coin 3 (some .int) ({ frames := 6, cells := 0, slots := 0, locals := 173 }) [.ref (cx_b G + ly_loc 8 0), .int p1] I J (ct_qi G n z.1 J z.2) := by
  refine ct_en (by decide) (Nat.le_of_ble_eq_true rfl) ?_
  intro p e s m args below meth c ls X S hl
  have X : cx_ok G p s m args meth c cX8_coin 3 RX8 (some .int) := X
  have hl : lv_has ls 3 [(0, .ref (cx_b G + ly_loc 8 0)), (1, .int p1)] := hl
  unfold f_X8_coin at h
  refine lv_aload_n X.1 X.2.1 dX8_coin_0 rfl (lv_at hl 0 rfl) ?_
  refine gf_X8_10 X S (by decide) dX8_coin_1 ?_
  refine lv_iload_n X.1 X.2.1 dX8_coin_4 rfl (lv_at hl 1 rfl) ?_
  obtain ⟨q_1, eq_1, h⟩ := pz_bd_e h
  refine r_Vi X S (c_X1_hasSlip hn (by decide) eq_1) gd_X8_106 ⟨rfl, ny_X1_hasSlip⟩ ⟨rfl, rfl⟩ ⟨Nat.le_of_ble_eq_true rfl, Nat.le_of_ble_eq_true rfl⟩ (r_recv X S (ly_ok_1 (by decide) S.2.2.2) rfl rfl) rfl rfl hl.1 (Nat.le_of_ble_eq_true rfl) dX8_coin_5 (fun H locs S => ?_)
  refine lv_if_ne (tgt := 14) X.1 X.2.1 dX8_coin_8 (by decide) (fun c_2 => ?_) (fun c_2 => ?_)
  · have h := pz_f c_2 h
    refine lv_aload_n X.1 X.2.1 dX8_coin_14 rfl (lv_at hl 0 rfl) ?_
    refine lv_aload_n X.1 X.2.1 dX8_coin_15 rfl (lv_at hl 0 rfl) ?_
    obtain ⟨q_3, eq_3, h⟩ := pz_bd_e h
    refine r_Vr X S (c_X8_rule hn eq_3) gd_X8_134 ⟨rfl, ny_X8_rule⟩ ⟨rfl, rfl⟩ ⟨Nat.le_of_ble_eq_true rfl, Nat.le_of_ble_eq_true rfl⟩ (r_recv X S (ly_ok_8 (by decide) S.2.2.2) rfl rfl) rfl rfl hl.1 (Nat.le_of_ble_eq_true rfl) dX8_coin_16 (fun H locs S => ?_)
    refine lv_iconst (v := -1) X.1 X.2.1 dX8_coin_19 (by decide) ?_
    obtain ⟨q_4, eq_4, h⟩ := pz_bd_e h
    refine r_Vv X S (c_X8_runDesk hn eq_4) gd_X8_152 ⟨rfl, ny_X8_runDesk⟩ ⟨rfl, rfl⟩ ⟨Nat.le_of_ble_eq_true rfl, Nat.le_of_ble_eq_true rfl⟩ (r_recv X S (ly_ok_8 (by decide) S.2.2.2) rfl rfl) rfl rfl hl.1 (Nat.le_of_ble_eq_true rfl) dX8_coin_20 (fun H locs S => ?_)
    refine lv_aload_n X.1 X.2.1 dX8_coin_23 rfl (lv_at hl 0 rfl) ?_
    refine gf_X8_37 X S (by decide) dX8_coin_24 ?_
    refine gf_X8_159 X S (by decide) dX8_coin_27 ?_
    refine lv_topi (fun x_5 ex_5 => ?_)
    have h := pz_lt_e h ex_5
    refine lv_istore_n (lv' := [(2, .int x_5), (0, .ref (cx_b G + ly_loc 8 0)), (1, .int p1)]) X.1 X.2.1 dX8_coin_30 rfl hl (by decide) rfl (fun ls hl => ?_)
    refine lv_aload_n X.1 X.2.1 dX8_coin_31 rfl (lv_at hl 1 rfl) ?_
    refine gf_X8_37 X S (by decide) dX8_coin_32 ?_
    refine lv_aload_n X.1 X.2.1 dX8_coin_35 rfl (lv_at hl 1 rfl) ?_
    obtain ⟨q_6, eq_6, h⟩ := pz_bd_e h
    refine r_Vr X S (c_X8_rule hn eq_6) gd_X8_134 ⟨rfl, ny_X8_rule⟩ ⟨rfl, rfl⟩ ⟨Nat.le_of_ble_eq_true rfl, Nat.le_of_ble_eq_true rfl⟩ (r_recv X S (ly_ok_8 (by decide) S.2.2.2) rfl rfl) rfl rfl hl.1 (Nat.le_of_ble_eq_true rfl) dX8_coin_36 (fun H locs S => ?_)
    obtain ⟨q_7, eq_7, h⟩ := pz_bd_e h
    refine r_Vv X S (c_X0_begin hn (by decide) eq_7) gd_X8_136 ⟨rfl, ny_X0_begin⟩ ⟨rfl, rfl⟩ ⟨Nat.le_of_ble_eq_true rfl, Nat.le_of_ble_eq_true rfl⟩ (r_recv X S (ly_ok_0 (by decide) S.2.2.2) rfl rfl) rfl rfl hl.1 (Nat.le_of_ble_eq_true rfl) dX8_coin_39 (fun H locs S => ?_)
    refine lv_aload_n X.1 X.2.1 dX8_coin_42 rfl (lv_at hl 1 rfl) ?_
    refine gf_X8_37 X S (by decide) dX8_coin_43 ?_
    refine lv_iload_n X.1 X.2.1 dX8_coin_46 rfl (lv_at hl 2 rfl) ?_
    obtain ⟨q_8, eq_8, h⟩ := pz_bd_e h
    refine r_Vv X S (c_X0_callSlip hn (by decide) eq_8) gd_X8_169 ⟨rfl, ny_X0_callSlip⟩ ⟨rfl, rfl⟩ ⟨Nat.le_of_ble_eq_true rfl, Nat.le_of_ble_eq_true rfl⟩ (r_recv X S (ly_ok_0 (by decide) S.2.2.2) rfl rfl) rfl rfl hl.1 (Nat.le_of_ble_eq_true rfl) dX8_coin_47 (fun H locs S => ?_)
    refine lv_aload_n X.1 X.2.1 dX8_coin_50 rfl (lv_at hl 1 rfl) ?_
    refine gf_X8_37 X S (by decide) dX8_coin_51 ?_
    obtain ⟨q_9, eq_9, h⟩ := pz_bd_e h
    refine r_Vv X S (c_X0_callByDesk hn (by decide) eq_9) gd_X8_172 ⟨rfl, ny_X0_callByDesk⟩ ⟨rfl, rfl⟩ ⟨Nat.le_of_ble_eq_true rfl, Nat.le_of_ble_eq_true rfl⟩ (r_recv X S (ly_ok_0 (by decide) S.2.2.2) rfl rfl) rfl rfl hl.1 (Nat.le_of_ble_eq_true rfl) dX8_coin_54 (fun H locs S => ?_)
    refine lv_iload_n X.1 X.2.1 dX8_coin_57 rfl (lv_at hl 0 rfl) ?_
    refine lv_aload_n X.1 X.2.1 dX8_coin_58 rfl (lv_at hl 1 rfl) ?_
    refine gf_X8_37 X S (by decide) dX8_coin_59 ?_
    refine gf_X8_159 X S (by decide) dX8_coin_62 ?_
    refine lv_isub X.1 X.2.1 dX8_coin_65 ?_
    cases h
    exact r_iret X S dX8_coin_66
  have h := pz_t c_2 h
  refine lv_ldc (v := -100000) X.1 X.2.1 X.2.2.2.1 (X.2.2.2.2.1 _ kw_X8_98) dX8_coin_11 ?_
  cases h
  exact r_iret X S dX8_coin_13
def f_X8_harm (N n : Nat) (I : mm_T) (p1 : Int32) : Option (mm_T × Int32) := pz_bd (f_X1_hasSlip N n I 0 p1) fun q_1 => if q_1 = 0 then (some (I, (-100000 : Int32))) else (pz_bd (f_X8_rule N n I) fun q_3 => pz_bd (f_X8_runDesk N n I q_3 (-1 : Int32)) fun q_4 => pz_lt (q_4 0 0 13) fun x_5 => pz_bd (f_X8_rule N n q_4) fun q_6 => pz_bd (f_X8_runDesk N n q_4 q_6 p1) fun q_7 => some (q_7, (x_5 - (q_7 0 0 13))))
set_option maxRecDepth 100000 in
set_option maxHeartbeats 4000000 in
theorem c_X8_harm {l : Launch} {G : cx_T} {N n : Nat} {I J : mm_T} {p1 : Int32} (hn : 144 ≤ n) {z : mm_T × Int32} (h : f_X8_harm N n I p1 = some z) : ct_m l G n yX8_harm cX8_harm 3 (some .int) ({ frames := 6, cells := 0, slots := 0, locals := 173 }) [.ref (cx_b G + ly_loc 8 0), .int p1] I J (ct_qi G n z.1 J z.2) := by
  refine ct_en (by decide) (Nat.le_of_ble_eq_true rfl) ?_
  intro p e s m args below meth c ls X S hl
  have X : cx_ok G p s m args meth c cX8_harm 3 RX8 (some .int) := X
  have hl : lv_has ls 3 [(0, .ref (cx_b G + ly_loc 8 0)), (1, .int p1)] := hl
  unfold f_X8_harm at h
  refine lv_aload_n X.1 X.2.1 dX8_harm_0 rfl (lv_at hl 0 rfl) ?_
  refine gf_X8_10 X S (by decide) dX8_harm_1 ?_
  refine lv_iload_n X.1 X.2.1 dX8_harm_4 rfl (lv_at hl 1 rfl) ?_
  obtain ⟨q_1, eq_1, h⟩ := pz_bd_e h
  refine r_Vi X S (c_X1_hasSlip hn (by decide) eq_1) gd_X8_106 ⟨rfl, ny_X1_hasSlip⟩ ⟨rfl, rfl⟩ ⟨Nat.le_of_ble_eq_true rfl, Nat.le_of_ble_eq_true rfl⟩ (r_recv X S (ly_ok_1 (by decide) S.2.2.2) rfl rfl) rfl rfl hl.1 (Nat.le_of_ble_eq_true rfl) dX8_harm_5 (fun H locs S => ?_)
  refine lv_if_ne (tgt := 14) X.1 X.2.1 dX8_harm_8 (by decide) (fun c_2 => ?_) (fun c_2 => ?_)
  · have h := pz_f c_2 h
    refine lv_aload_n X.1 X.2.1 dX8_harm_14 rfl (lv_at hl 0 rfl) ?_
    refine lv_aload_n X.1 X.2.1 dX8_harm_15 rfl (lv_at hl 0 rfl) ?_
    obtain ⟨q_3, eq_3, h⟩ := pz_bd_e h
    refine r_Vr X S (c_X8_rule hn eq_3) gd_X8_134 ⟨rfl, ny_X8_rule⟩ ⟨rfl, rfl⟩ ⟨Nat.le_of_ble_eq_true rfl, Nat.le_of_ble_eq_true rfl⟩ (r_recv X S (ly_ok_8 (by decide) S.2.2.2) rfl rfl) rfl rfl hl.1 (Nat.le_of_ble_eq_true rfl) dX8_harm_16 (fun H locs S => ?_)
    refine lv_iconst (v := -1) X.1 X.2.1 dX8_harm_19 (by decide) ?_
    obtain ⟨q_4, eq_4, h⟩ := pz_bd_e h
    refine r_Vv X S (c_X8_runDesk hn eq_4) gd_X8_152 ⟨rfl, ny_X8_runDesk⟩ ⟨rfl, rfl⟩ ⟨Nat.le_of_ble_eq_true rfl, Nat.le_of_ble_eq_true rfl⟩ (r_recv X S (ly_ok_8 (by decide) S.2.2.2) rfl rfl) rfl rfl hl.1 (Nat.le_of_ble_eq_true rfl) dX8_harm_20 (fun H locs S => ?_)
    refine lv_aload_n X.1 X.2.1 dX8_harm_23 rfl (lv_at hl 0 rfl) ?_
    refine gf_X8_37 X S (by decide) dX8_harm_24 ?_
    refine gf_X8_175 X S (by decide) dX8_harm_27 ?_
    refine lv_topi (fun x_5 ex_5 => ?_)
    have h := pz_lt_e h ex_5
    refine lv_istore_n (lv' := [(2, .int x_5), (0, .ref (cx_b G + ly_loc 8 0)), (1, .int p1)]) X.1 X.2.1 dX8_harm_30 rfl hl (by decide) rfl (fun ls hl => ?_)
    refine lv_aload_n X.1 X.2.1 dX8_harm_31 rfl (lv_at hl 1 rfl) ?_
    refine lv_aload_n X.1 X.2.1 dX8_harm_32 rfl (lv_at hl 1 rfl) ?_
    obtain ⟨q_6, eq_6, h⟩ := pz_bd_e h
    refine r_Vr X S (c_X8_rule hn eq_6) gd_X8_134 ⟨rfl, ny_X8_rule⟩ ⟨rfl, rfl⟩ ⟨Nat.le_of_ble_eq_true rfl, Nat.le_of_ble_eq_true rfl⟩ (r_recv X S (ly_ok_8 (by decide) S.2.2.2) rfl rfl) rfl rfl hl.1 (Nat.le_of_ble_eq_true rfl) dX8_harm_33 (fun H locs S => ?_)
    refine lv_iload_n X.1 X.2.1 dX8_harm_36 rfl (lv_at hl 2 rfl) ?_
    obtain ⟨q_7, eq_7, h⟩ := pz_bd_e h
    refine r_Vv X S (c_X8_runDesk hn eq_7) gd_X8_152 ⟨rfl, ny_X8_runDesk⟩ ⟨rfl, rfl⟩ ⟨Nat.le_of_ble_eq_true rfl, Nat.le_of_ble_eq_true rfl⟩ (r_recv X S (ly_ok_8 (by decide) S.2.2.2) rfl rfl) rfl rfl hl.1 (Nat.le_of_ble_eq_true rfl) dX8_harm_37 (fun H locs S => ?_)
    refine lv_iload_n X.1 X.2.1 dX8_harm_40 rfl (lv_at hl 0 rfl) ?_
    refine lv_aload_n X.1 X.2.1 dX8_harm_41 rfl (lv_at hl 1 rfl) ?_
    refine gf_X8_37 X S (by decide) dX8_harm_42 ?_
    refine gf_X8_175 X S (by decide) dX8_harm_45 ?_
    refine lv_isub X.1 X.2.1 dX8_harm_48 ?_
    cases h
    exact r_iret X S dX8_harm_49
  have h := pz_t c_2 h
  refine lv_ldc (v := -100000) X.1 X.2.1 X.2.2.2.1 (X.2.2.2.2.1 _ kw_X8_98) dX8_harm_11 ?_
  cases h
  exact r_iret X S dX8_harm_13
def f_X8_isSheet (N : Nat) (p1 : Int32) : Option (Int32) := if p1 < 0 then (some (0 : Int32)) else (if (4 : Int32) ≤ p1 then (some (0 : Int32)) else (some (1 : Int32)))
set_option maxRecDepth 100000 in
set_option maxHeartbeats 4000000 in
theorem c_X8_isSheet {l : Launch} {G : cx_T} {N n : Nat} {I J : mm_T} {p1 : Int32} {z : Int32} (h : f_X8_isSheet N p1 = some z) : ct_m l G n yX8_isSheet cX8_isSheet 1 (some .boolean) ({ frames := 0, cells := 0, slots := 0, locals := 0 }) [.int p1] I J (ct_qi G n I J z) := by
  refine ct_en (by decide) (Nat.le_of_ble_eq_true rfl) ?_
  intro p e s m args below meth c ls X S hl
  have X : cx_ok G p s m args meth c cX8_isSheet 1 RX8 (some .boolean) := X
  have hl : lv_has ls 1 [(0, .int p1)] := hl
  have hn := S.2.2.2
  unfold f_X8_isSheet at h
  refine lv_iload_n X.1 X.2.1 dX8_isSheet_0 rfl (lv_at hl 0 rfl) ?_
  refine lv_if_lt (tgt := 13) X.1 X.2.1 dX8_isSheet_1 (by decide) (fun c_1 => ?_) (fun c_1 => ?_)
  · have h := pz_t c_1 h
    refine lv_iconst (v := 0) X.1 X.2.1 dX8_isSheet_13 (by decide) ?_
    cases h
    exact r_zret (v := 0) X S rfl dX8_isSheet_14
  have h := pz_f c_1 h
  refine lv_iload_n X.1 X.2.1 dX8_isSheet_4 rfl (lv_at hl 0 rfl) ?_
  refine lv_iconst (v := 4) X.1 X.2.1 dX8_isSheet_5 (by decide) ?_
  refine lv_icmp_ge (tgt := 13) X.1 X.2.1 dX8_isSheet_6 (by decide) (fun c_2 => ?_) (fun c_2 => ?_)
  · have h := pz_t c_2 h
    refine lv_iconst (v := 0) X.1 X.2.1 dX8_isSheet_13 (by decide) ?_
    cases h
    exact r_zret (v := 0) X S rfl dX8_isSheet_14
  have h := pz_f c_2 h
  refine lv_iconst (v := 1) X.1 X.2.1 dX8_isSheet_9 (by decide) ?_
  refine lv_goto (tgt := 14) X.1 X.2.1 dX8_isSheet_10 (by decide) ?_
  cases h
  exact r_zret (v := 1) X S rfl dX8_isSheet_14
def f_X8_judged_L8 (N n : Nat) (i1 : Nat) (t2 : Int32) : Nat → mm_T → Int32 → Option (mm_T × Int32)
  | 0, _, _ => none
  | cnt + 1, I, a3 => if (I 5 i1 2) ≤ a3 then (some (I, (-1 : Int32))) else (if (I 0 0 7) ≤ a3 then (some (I, a3)) else (pz_gd (ix_in a3 40) <| pz_gd (ix_in a3 7) <| if (I 27 i1 a3.toNatClampNeg) = (I 14 0 a3.toNatClampNeg) then (pz_lt (a3 + (1 : Int32)) fun x_7 => f_X8_judged_L8 N n i1 t2 cnt I x_7) else (some (I, a3))))
set_option maxRecDepth 100000 in
set_option maxHeartbeats 4000000 in
theorem w_X8_judged_L8 {l : Launch} {G : cx_T} {p : Program} {e : Env} {s : State} {m : MethodId} {args : Array Value} {below : List Frame} {meth : Method} {c : Code} {N n : Nat} {J : mm_T} {i1 : Nat} {t2 : Int32} (X : cx_ok G p s m args meth c cX8_judged 4 RX8 (some .int)) (hn : 144 ≤ n) (hi1 : i1 < 4) {z : mm_T × Int32} : ∀ (cnt : Nat) {I : mm_T} {a3 : Int32} {H : Heap} {locs : List Loc} {ls : Array Slot} , f_X8_judged_L8 N n i1 t2 cnt I a3 = some z → st_ok G n I J s H locs → lv_has ls 4 [(0, .ref (cx_b G + ly_loc 8 0)), (1, .ref (cx_b G + ly_loc 5 i1)), (3, .int a3)] → W p l e ({ frames := 6, cells := 0, slots := 0, locals := 173 }) s m args below meth c H locs 0 0 (MQ below (ct_qi G n z.1 J z.2) args s 0 0 (cx_A G)) (F0 m 8 ls []) := by
  intro cnt
  induction cnt with
  | zero =>
    intro I a3 H locs ls h
    rw [f_X8_judged_L8] at h
    cases h
  | succ cnt ih =>
    intro I a3 H locs ls h S hl
    rw [f_X8_judged_L8] at h
    refine lv_iload_n X.1 X.2.1 dX8_judged_8 rfl (lv_at hl 2 rfl) ?_
    refine lv_aload_n X.1 X.2.1 dX8_judged_9 rfl (lv_at hl 1 rfl) ?_
    refine gf_X8_241 X S hn hi1 dX8_judged_10 ?_
    refine lv_icmp_ge (tgt := 53) X.1 X.2.1 dX8_judged_13 (by decide) (fun c_2 => ?_) (fun c_2 => ?_)
    · have h := pz_t c_2 h
      refine lv_iconst (v := -1) X.1 X.2.1 dX8_judged_53 (by decide) ?_
      cases h
      exact r_iret X S dX8_judged_54
    have h := pz_f c_2 h
    refine lv_iload_n X.1 X.2.1 dX8_judged_16 rfl (lv_at hl 2 rfl) ?_
    refine lv_aload_n X.1 X.2.1 dX8_judged_17 rfl (lv_at hl 0 rfl) ?_
    refine gf_X8_37 X S (by decide) dX8_judged_18 ?_
    refine gf_X8_244 X S (by decide) dX8_judged_21 ?_
    refine lv_icmp_ge (tgt := 45) X.1 X.2.1 dX8_judged_24 (by decide) (fun c_3 => ?_) (fun c_3 => ?_)
    · have h := pz_t c_3 h
      refine lv_iload_n X.1 X.2.1 dX8_judged_45 rfl (lv_at hl 2 rfl) ?_
      cases h
      exact r_iret X S dX8_judged_46
    have h := pz_f c_3 h
    refine lv_aload_n X.1 X.2.1 dX8_judged_27 rfl (lv_at hl 1 rfl) ?_
    refine gf_X8_223 X S hn hi1 dX8_judged_28 ?_
    refine lv_iload_n X.1 X.2.1 dX8_judged_31 rfl (lv_at hl 2 rfl) ?_
    obtain ⟨g_4, h⟩ := pz_gd_e h
    refine al_27 X S hn hi1 g_4 dX8_judged_32 ?_
    refine lv_aload_n X.1 X.2.1 dX8_judged_33 rfl (lv_at hl 0 rfl) ?_
    refine gf_X8_37 X S (by decide) dX8_judged_34 ?_
    refine gf_X8_247 X S (by decide) dX8_judged_37 ?_
    refine lv_iload_n X.1 X.2.1 dX8_judged_40 rfl (lv_at hl 2 rfl) ?_
    obtain ⟨g_5, h⟩ := pz_gd_e h
    refine al_14 X S (by decide) g_5 dX8_judged_41 ?_
    refine lv_icmp_eq (tgt := 47) X.1 X.2.1 dX8_judged_42 (by decide) (fun c_6 => ?_) (fun c_6 => ?_)
    · have h := pz_t c_6 h
      obtain ⟨x_7, ex_7⟩ : ∃ y : Int32, y = (a3 + (1 : Int32)) := ⟨_, rfl⟩
      have h := pz_lt_e h ex_7
      refine lv_iinc (v := x_7) (lv' := [(3, .int x_7), (0, .ref (cx_b G + ly_loc 8 0)), (1, .ref (cx_b G + ly_loc 5 i1))]) X.1 X.2.1 dX8_judged_47 hl (k := 2) rfl (by rw [ex_7]; rfl) (by decide) rfl (fun ls hl => ?_)
      refine lv_goto (tgt := 8) X.1 X.2.1 dX8_judged_50 (by decide) ?_
      exact ih h S (lv_sub hl [1, 2, 0] rfl)
    have h := pz_f c_6 h
    refine lv_iload_n X.1 X.2.1 dX8_judged_45 rfl (lv_at hl 2 rfl) ?_
    cases h
    exact r_iret X S dX8_judged_46
def f_X8_judged (N n : Nat) (I : mm_T) (i1 : Nat) (t2 : Int32) : Option (mm_T × Int32) := pz_bd (f_X8_runDesk N n I t2 (-1 : Int32)) fun q_1 => f_X8_judged_L8 N n i1 t2 N q_1 (0 : Int32)
set_option maxRecDepth 100000 in
set_option maxHeartbeats 4000000 in
theorem c_X8_judged {l : Launch} {G : cx_T} {N n : Nat} {I J : mm_T} {i1 : Nat} {t2 : Int32} (hn : 144 ≤ n) (hi1 : i1 < 4) {z : mm_T × Int32} (h : f_X8_judged N n I i1 t2 = some z) : ct_m l G n yX8_judged cX8_judged 4 (some .int) ({ frames := 6, cells := 0, slots := 0, locals := 173 }) [.ref (cx_b G + ly_loc 8 0), .ref (cx_b G + ly_loc 5 i1), .ref (cx_b G + ly_loc 7 t2.toNatClampNeg)] I J (ct_qi G n z.1 J z.2) := by
  refine ct_en (by decide) (Nat.le_of_ble_eq_true rfl) ?_
  intro p e s m args below meth c ls X S hl
  have X : cx_ok G p s m args meth c cX8_judged 4 RX8 (some .int) := X
  have hl : lv_has ls 4 [(0, .ref (cx_b G + ly_loc 8 0)), (1, .ref (cx_b G + ly_loc 5 i1)), (2, .ref (cx_b G + ly_loc 7 t2.toNatClampNeg))] := hl
  unfold f_X8_judged at h
  refine lv_aload_n X.1 X.2.1 dX8_judged_0 rfl (lv_at hl 0 rfl) ?_
  refine lv_aload_n X.1 X.2.1 dX8_judged_1 rfl (lv_at hl 2 rfl) ?_
  refine lv_iconst (v := -1) X.1 X.2.1 dX8_judged_2 (by decide) ?_
  obtain ⟨q_1, eq_1, h⟩ := pz_bd_e h
  refine r_Vv X S (c_X8_runDesk hn eq_1) gd_X8_152 ⟨rfl, ny_X8_runDesk⟩ ⟨rfl, rfl⟩ ⟨Nat.le_of_ble_eq_true rfl, Nat.le_of_ble_eq_true rfl⟩ (r_recv X S (ly_ok_8 (by decide) S.2.2.2) rfl rfl) rfl rfl hl.1 (Nat.le_of_ble_eq_true rfl) dX8_judged_3 (fun H locs S => ?_)
  refine lv_iconst (v := 0) X.1 X.2.1 dX8_judged_6 (by decide) ?_
  refine lv_istore_n (lv' := [(3, .int (0 : Int32)), (0, .ref (cx_b G + ly_loc 8 0)), (1, .ref (cx_b G + ly_loc 5 i1)), (2, .ref (cx_b G + ly_loc 7 t2.toNatClampNeg))]) X.1 X.2.1 dX8_judged_7 rfl hl (by decide) rfl (fun ls hl => ?_)
  exact w_X8_judged_L8 X hn hi1 N h S (lv_sub hl [1, 2, 0] rfl)
def f_X8_judge (N n : Nat) (I : mm_T) (p1 : Int32) : Option (mm_T × Int32) := pz_bd (f_X8_isSheet N p1) fun q_1 => if q_1 = 0 then (some (I, (-2 : Int32))) else (pz_gd (ix_in p1 4) <| pz_gd (decide (¬ (I 26 0 p1.toNatClampNeg) = -1)) <| if (I 5 (p1.toNatClampNeg) 1) = (-1 : Int32) then (some (I, (-11 : Int32))) else (pz_gd (ix_in p1 4) <| pz_gd (decide (¬ (I 26 0 p1.toNatClampNeg) = -1)) <| pz_bd (f_X8_rule N n I) fun q_8 => pz_bd (f_X8_judged N n I (p1.toNatClampNeg) q_8) fun q_9 => some (q_9.1, q_9.2)))
set_option maxRecDepth 100000 in
set_option maxHeartbeats 4000000 in
theorem c_X8_judge {l : Launch} {G : cx_T} {N n : Nat} {I J : mm_T} {p1 : Int32} (hn : 144 ≤ n) {z : mm_T × Int32} (h : f_X8_judge N n I p1 = some z) : ct_m l G n yX8_judge cX8_judge 2 (some .int) ({ frames := 7, cells := 0, slots := 0, locals := 196 }) [.ref (cx_b G + ly_loc 8 0), .int p1] I J (ct_qi G n z.1 J z.2) := by
  refine ct_en (by decide) (Nat.le_of_ble_eq_true rfl) ?_
  intro p e s m args below meth c ls X S hl
  have X : cx_ok G p s m args meth c cX8_judge 2 RX8 (some .int) := X
  have hl : lv_has ls 2 [(0, .ref (cx_b G + ly_loc 8 0)), (1, .int p1)] := hl
  unfold f_X8_judge at h
  refine lv_iload_n X.1 X.2.1 dX8_judge_0 rfl (lv_at hl 1 rfl) ?_
  obtain ⟨q_1, eq_1, h⟩ := pz_bd_e h
  refine r_Si X S (c_X8_isSheet eq_1) gd_X8_178 ny_X8_isSheet ⟨rfl, rfl⟩ ⟨Nat.le_of_ble_eq_true rfl, Nat.le_of_ble_eq_true rfl⟩ rfl rfl hl.1 (Nat.le_of_ble_eq_true rfl) dX8_judge_1 (fun H locs S => ?_)
  refine lv_if_ne (tgt := 10) X.1 X.2.1 dX8_judge_4 (by decide) (fun c_2 => ?_) (fun c_2 => ?_)
  · have h := pz_f c_2 h
    refine lv_aload_n X.1 X.2.1 dX8_judge_10 rfl (lv_at hl 0 rfl) ?_
    refine gf_X8_50 X S (by decide) dX8_judge_11 ?_
    refine lv_iload_n X.1 X.2.1 dX8_judge_14 rfl (lv_at hl 1 rfl) ?_
    obtain ⟨g_3, h⟩ := pz_gd_e h
    obtain ⟨g_4, h⟩ := pz_gd_e h
    refine aa_26 X S (by decide) g_3 (of_decide_eq_true g_4) dX8_judge_15 ?_
    refine gf_X8_181 X S hn (ix_lt g_3) dX8_judge_16 ?_
    refine lv_iconst (v := -1) X.1 X.2.1 dX8_judge_19 (by decide) ?_
    refine lv_icmp_ne (tgt := 26) X.1 X.2.1 dX8_judge_20 (by decide) (fun c_5 => ?_) (fun c_5 => ?_)
    · have h := pz_f c_5 h
      refine lv_aload_n X.1 X.2.1 dX8_judge_26 rfl (lv_at hl 0 rfl) ?_
      refine lv_aload_n X.1 X.2.1 dX8_judge_27 rfl (lv_at hl 0 rfl) ?_
      refine gf_X8_50 X S (by decide) dX8_judge_28 ?_
      refine lv_iload_n X.1 X.2.1 dX8_judge_31 rfl (lv_at hl 1 rfl) ?_
      obtain ⟨g_6, h⟩ := pz_gd_e h
      obtain ⟨g_7, h⟩ := pz_gd_e h
      refine aa_26 X S (by decide) g_6 (of_decide_eq_true g_7) dX8_judge_32 ?_
      refine lv_aload_n X.1 X.2.1 dX8_judge_33 rfl (lv_at hl 0 rfl) ?_
      obtain ⟨q_8, eq_8, h⟩ := pz_bd_e h
      refine r_Vr X S (c_X8_rule hn eq_8) gd_X8_134 ⟨rfl, ny_X8_rule⟩ ⟨rfl, rfl⟩ ⟨Nat.le_of_ble_eq_true rfl, Nat.le_of_ble_eq_true rfl⟩ (r_recv X S (ly_ok_8 (by decide) S.2.2.2) rfl rfl) rfl rfl hl.1 (Nat.le_of_ble_eq_true rfl) dX8_judge_34 (fun H locs S => ?_)
      obtain ⟨q_9, eq_9, h⟩ := pz_bd_e h
      refine r_Vi X S (c_X8_judged hn (ix_lt g_6) eq_9) gd_X8_184 ⟨rfl, ny_X8_judged⟩ ⟨rfl, rfl⟩ ⟨Nat.le_of_ble_eq_true rfl, Nat.le_of_ble_eq_true rfl⟩ (r_recv X S (ly_ok_8 (by decide) S.2.2.2) rfl rfl) rfl rfl hl.1 (Nat.le_of_ble_eq_true rfl) dX8_judge_37 (fun H locs S => ?_)
      cases h
      exact r_iret X S dX8_judge_40
    have h := pz_t c_5 h
    refine lv_bipush (v := -11) X.1 X.2.1 dX8_judge_23 (by decide) ?_
    cases h
    exact r_iret X S dX8_judge_25
  have h := pz_t c_2 h
  refine lv_bipush (v := -2) X.1 X.2.1 dX8_judge_7 (by decide) ?_
  cases h
  exact r_iret X S dX8_judge_9
def f_X8_which_L64 (N n : Nat) (p1 : Int32) (k30 : mm_T → Int32 → Int32 → Int32 → Option (mm_T × Int32)) (I : mm_T) (a1 : Int32) (a2 : Int32) (a3 : Int32) : Option (mm_T × Int32) := pz_lt (a3 + (1 : Int32)) fun x_14 => k30 I a1 a2 x_14
set_option maxRecDepth 100000 in
set_option maxHeartbeats 4000000 in
theorem w_X8_which_L64 {l : Launch} {G : cx_T} {p : Program} {e : Env} {s : State} {m : MethodId} {args : Array Value} {below : List Frame} {meth : Method} {c : Code} {N n : Nat} {J : mm_T} {p1 : Int32} (X : cx_ok G p s m args meth c cX8_which 4 RX8 (some .int)) (hn : 144 ≤ n) {k30 : mm_T → Int32 → Int32 → Int32 → Option (mm_T × Int32)} {z : mm_T × Int32} (K30 : ∀ {I : mm_T} {a1 : Int32} {a2 : Int32} {a3 : Int32} {H : Heap} {locs : List Loc} {ls : Array Slot}, k30 I a1 a2 a3 = some z → st_ok G n I J s H locs → lv_has ls 4 [(0, .ref (cx_b G + ly_loc 8 0)), (1, .int a1), (2, .int a2), (3, .int a3)] → W p l e ({ frames := 7, cells := 0, slots := 0, locals := 196 }) s m args below meth c H locs 0 0 (MQ below (ct_qi G n z.1 J z.2) args s 0 0 (cx_A G)) (F0 m 30 ls [])) {I : mm_T} {a1 : Int32} {a2 : Int32} {a3 : Int32} {H : Heap} {locs : List Loc} {ls : Array Slot} (h : f_X8_which_L64 N n p1 k30 I a1 a2 a3 = some z) (S : st_ok G n I J s H locs) (hl : lv_has ls 4 [(0, .ref (cx_b G + ly_loc 8 0)), (1, .int a1), (2, .int a2), (3, .int a3)]) : W p l e ({ frames := 7, cells := 0, slots := 0, locals := 196 }) s m args below meth c H locs 0 0 (MQ below (ct_qi G n z.1 J z.2) args s 0 0 (cx_A G)) (F0 m 64 ls []) := by
  unfold f_X8_which_L64 at h
  obtain ⟨x_14, ex_14⟩ : ∃ y : Int32, y = (a3 + (1 : Int32)) := ⟨_, rfl⟩
  have h := pz_lt_e h ex_14
  refine lv_iinc (v := x_14) (lv' := [(3, .int x_14), (0, .ref (cx_b G + ly_loc 8 0)), (1, .int a1), (2, .int a2)]) X.1 X.2.1 dX8_which_64 hl (k := 3) rfl (by rw [ex_14]; rfl) (by decide) rfl (fun ls hl => ?_)
  refine lv_goto (tgt := 30) X.1 X.2.1 dX8_which_67 (by decide) ?_
  exact K30 h S (lv_sub hl [1, 2, 3, 0] rfl)
def f_X8_which_L30 (N n : Nat) (p1 : Int32) : Nat → mm_T → Int32 → Int32 → Int32 → Option (mm_T × Int32)
  | 0, _, _, _, _ => none
  | cnt + 1, I, a1, a2, a3 => if (I 8 0 5) ≤ a3 then (some (I, a2)) else (pz_gd (ix_in a1 4) <| pz_gd (decide (¬ (I 26 0 a1.toNatClampNeg) = -1)) <| pz_gd (ix_in a3 6) <| pz_gd (decide (¬ (I 20 0 a3.toNatClampNeg) = -1)) <| pz_bd (f_X8_judged N n I (a1.toNatClampNeg) (I 20 0 a3.toNatClampNeg)) fun q_11 => if q_11.2 = (-1 : Int32) then (pz_lt (a2 ||| ((1 : Int32) <<< (a3 &&& 31))) fun x_13 => f_X8_which_L64 N n p1 (f_X8_which_L30 N n p1 cnt) q_11.1 a1 x_13 a3) else (f_X8_which_L64 N n p1 (f_X8_which_L30 N n p1 cnt) q_11.1 a1 a2 a3))
set_option maxRecDepth 100000 in
set_option maxHeartbeats 4000000 in
theorem w_X8_which_L30 {l : Launch} {G : cx_T} {p : Program} {e : Env} {s : State} {m : MethodId} {args : Array Value} {below : List Frame} {meth : Method} {c : Code} {N n : Nat} {J : mm_T} {p1 : Int32} (X : cx_ok G p s m args meth c cX8_which 4 RX8 (some .int)) (hn : 144 ≤ n) {z : mm_T × Int32} : ∀ (cnt : Nat) {I : mm_T} {a1 : Int32} {a2 : Int32} {a3 : Int32} {H : Heap} {locs : List Loc} {ls : Array Slot} , f_X8_which_L30 N n p1 cnt I a1 a2 a3 = some z → st_ok G n I J s H locs → lv_has ls 4 [(0, .ref (cx_b G + ly_loc 8 0)), (1, .int a1), (2, .int a2), (3, .int a3)] → W p l e ({ frames := 7, cells := 0, slots := 0, locals := 196 }) s m args below meth c H locs 0 0 (MQ below (ct_qi G n z.1 J z.2) args s 0 0 (cx_A G)) (F0 m 30 ls []) := by
  intro cnt
  induction cnt with
  | zero =>
    intro I a1 a2 a3 H locs ls h
    rw [f_X8_which_L30] at h
    cases h
  | succ cnt ih =>
    intro I a1 a2 a3 H locs ls h S hl
    rw [f_X8_which_L30] at h
    refine lv_iload_n X.1 X.2.1 dX8_which_30 rfl (lv_at hl 3 rfl) ?_
    refine lv_aload_n X.1 X.2.1 dX8_which_31 rfl (lv_at hl 0 rfl) ?_
    refine gf_X8_78 X S (by decide) dX8_which_32 ?_
    refine lv_icmp_ge (tgt := 70) X.1 X.2.1 dX8_which_35 (by decide) (fun c_6 => ?_) (fun c_6 => ?_)
    · have h := pz_t c_6 h
      refine lv_iload_n X.1 X.2.1 dX8_which_70 rfl (lv_at hl 2 rfl) ?_
      cases h
      exact r_iret X S dX8_which_71
    have h := pz_f c_6 h
    refine lv_aload_n X.1 X.2.1 dX8_which_38 rfl (lv_at hl 0 rfl) ?_
    refine lv_aload_n X.1 X.2.1 dX8_which_39 rfl (lv_at hl 0 rfl) ?_
    refine gf_X8_50 X S (by decide) dX8_which_40 ?_
    refine lv_iload_n X.1 X.2.1 dX8_which_43 rfl (lv_at hl 1 rfl) ?_
    obtain ⟨g_7, h⟩ := pz_gd_e h
    obtain ⟨g_8, h⟩ := pz_gd_e h
    refine aa_26 X S (by decide) g_7 (of_decide_eq_true g_8) dX8_which_44 ?_
    refine lv_aload_n X.1 X.2.1 dX8_which_45 rfl (lv_at hl 0 rfl) ?_
    refine gf_X8_28 X S (by decide) dX8_which_46 ?_
    refine lv_iload_n X.1 X.2.1 dX8_which_49 rfl (lv_at hl 3 rfl) ?_
    obtain ⟨g_9, h⟩ := pz_gd_e h
    obtain ⟨g_10, h⟩ := pz_gd_e h
    refine aa_20 X S (by decide) g_9 (of_decide_eq_true g_10) dX8_which_50 ?_
    obtain ⟨q_11, eq_11, h⟩ := pz_bd_e h
    refine r_Vi X S (c_X8_judged hn (ix_lt g_7) eq_11) gd_X8_184 ⟨rfl, ny_X8_judged⟩ ⟨rfl, rfl⟩ ⟨Nat.le_of_ble_eq_true rfl, Nat.le_of_ble_eq_true rfl⟩ (r_recv X S (ly_ok_8 (by decide) S.2.2.2) rfl rfl) rfl rfl hl.1 (Nat.le_of_ble_eq_true rfl) dX8_which_51 (fun H locs S => ?_)
    refine lv_iconst (v := -1) X.1 X.2.1 dX8_which_54 (by decide) ?_
    refine lv_icmp_ne (tgt := 64) X.1 X.2.1 dX8_which_55 (by decide) (fun c_12 => ?_) (fun c_12 => ?_)
    · have h := pz_f c_12 h
      exact w_X8_which_L64 X hn ih h S (lv_sub hl [0, 1, 2, 3] rfl)
    have h := pz_t c_12 h
    refine lv_iload_n X.1 X.2.1 dX8_which_58 rfl (lv_at hl 2 rfl) ?_
    refine lv_iconst (v := 1) X.1 X.2.1 dX8_which_59 (by decide) ?_
    refine lv_iload_n X.1 X.2.1 dX8_which_60 rfl (lv_at hl 3 rfl) ?_
    refine lv_ishl X.1 X.2.1 dX8_which_61 ?_
    refine lv_ior X.1 X.2.1 dX8_which_62 ?_
    refine lv_topi (fun x_13 ex_13 => ?_)
    have h := pz_lt_e h ex_13
    refine lv_istore_n (lv' := [(2, .int x_13), (0, .ref (cx_b G + ly_loc 8 0)), (1, .int a1), (3, .int a3)]) X.1 X.2.1 dX8_which_63 rfl hl (by decide) rfl (fun ls hl => ?_)
    exact w_X8_which_L64 X hn ih h S (lv_sub hl [1, 2, 0, 3] rfl)
def f_X8_which (N n : Nat) (I : mm_T) (p1 : Int32) : Option (mm_T × Int32) := pz_bd (f_X8_isSheet N p1) fun q_1 => if q_1 = 0 then (some (I, (-2 : Int32))) else (pz_gd (ix_in p1 4) <| pz_gd (decide (¬ (I 26 0 p1.toNatClampNeg) = -1)) <| if (I 5 (p1.toNatClampNeg) 1) = (-1 : Int32) then (some (I, (-11 : Int32))) else (f_X8_which_L30 N n p1 N I p1 (0 : Int32) (0 : Int32)))
set_option maxRecDepth 100000 in
set_option maxHeartbeats 4000000 in
theorem c_X8_which {l : Launch} {G : cx_T} {N n : Nat} {I J : mm_T} {p1 : Int32} (hn : 144 ≤ n) {z : mm_T × Int32} (h : f_X8_which N n I p1 = some z) : ct_m l G n yX8_which cX8_which 4 (some .int) ({ frames := 7, cells := 0, slots := 0, locals := 196 }) [.ref (cx_b G + ly_loc 8 0), .int p1] I J (ct_qi G n z.1 J z.2) := by
  refine ct_en (by decide) (Nat.le_of_ble_eq_true rfl) ?_
  intro p e s m args below meth c ls X S hl
  have X : cx_ok G p s m args meth c cX8_which 4 RX8 (some .int) := X
  have hl : lv_has ls 4 [(0, .ref (cx_b G + ly_loc 8 0)), (1, .int p1)] := hl
  unfold f_X8_which at h
  refine lv_iload_n X.1 X.2.1 dX8_which_0 rfl (lv_at hl 1 rfl) ?_
  obtain ⟨q_1, eq_1, h⟩ := pz_bd_e h
  refine r_Si X S (c_X8_isSheet eq_1) gd_X8_178 ny_X8_isSheet ⟨rfl, rfl⟩ ⟨Nat.le_of_ble_eq_true rfl, Nat.le_of_ble_eq_true rfl⟩ rfl rfl hl.1 (Nat.le_of_ble_eq_true rfl) dX8_which_1 (fun H locs S => ?_)
  refine lv_if_ne (tgt := 10) X.1 X.2.1 dX8_which_4 (by decide) (fun c_2 => ?_) (fun c_2 => ?_)
  · have h := pz_f c_2 h
    refine lv_aload_n X.1 X.2.1 dX8_which_10 rfl (lv_at hl 0 rfl) ?_
    refine gf_X8_50 X S (by decide) dX8_which_11 ?_
    refine lv_iload_n X.1 X.2.1 dX8_which_14 rfl (lv_at hl 1 rfl) ?_
    obtain ⟨g_3, h⟩ := pz_gd_e h
    obtain ⟨g_4, h⟩ := pz_gd_e h
    refine aa_26 X S (by decide) g_3 (of_decide_eq_true g_4) dX8_which_15 ?_
    refine gf_X8_181 X S hn (ix_lt g_3) dX8_which_16 ?_
    refine lv_iconst (v := -1) X.1 X.2.1 dX8_which_19 (by decide) ?_
    refine lv_icmp_ne (tgt := 26) X.1 X.2.1 dX8_which_20 (by decide) (fun c_5 => ?_) (fun c_5 => ?_)
    · have h := pz_f c_5 h
      refine lv_iconst (v := 0) X.1 X.2.1 dX8_which_26 (by decide) ?_
      refine lv_istore_n (lv' := [(2, .int (0 : Int32)), (0, .ref (cx_b G + ly_loc 8 0)), (1, .int p1)]) X.1 X.2.1 dX8_which_27 rfl hl (by decide) rfl (fun ls hl => ?_)
      refine lv_iconst (v := 0) X.1 X.2.1 dX8_which_28 (by decide) ?_
      refine lv_istore_n (lv' := [(3, .int (0 : Int32)), (2, .int (0 : Int32)), (0, .ref (cx_b G + ly_loc 8 0)), (1, .int p1)]) X.1 X.2.1 dX8_which_29 rfl hl (by decide) rfl (fun ls hl => ?_)
      exact w_X8_which_L30 X hn N h S (lv_sub hl [2, 3, 1, 0] rfl)
    have h := pz_t c_5 h
    refine lv_bipush (v := -11) X.1 X.2.1 dX8_which_23 (by decide) ?_
    cases h
    exact r_iret X S dX8_which_25
  have h := pz_t c_2 h
  refine lv_bipush (v := -2) X.1 X.2.1 dX8_which_7 (by decide) ?_
  cases h
  exact r_iret X S dX8_which_9
def f_X8_behind_L65 (N n : Nat) (k15 : mm_T → Int32 → Int32 → Int32 → Option (mm_T × Int32)) (I : mm_T) (a1 : Int32) (a2 : Int32) (a3 : Int32) : Option (mm_T × Int32) := pz_lt (a3 + (1 : Int32)) fun x_10 => k15 I a1 a2 x_10
set_option maxRecDepth 100000 in
set_option maxHeartbeats 4000000 in
theorem w_X8_behind_L65 {l : Launch} {G : cx_T} {p : Program} {e : Env} {s : State} {m : MethodId} {args : Array Value} {below : List Frame} {meth : Method} {c : Code} {N n : Nat} {J : mm_T} (X : cx_ok G p s m args meth c cX8_behind 5 RX8 (some .int)) (hn : 144 ≤ n) {k15 : mm_T → Int32 → Int32 → Int32 → Option (mm_T × Int32)} {z : mm_T × Int32} (K15 : ∀ {I : mm_T} {a1 : Int32} {a2 : Int32} {a3 : Int32} {H : Heap} {locs : List Loc} {ls : Array Slot}, k15 I a1 a2 a3 = some z → st_ok G n I J s H locs → lv_has ls 5 [(0, .ref (cx_b G + ly_loc 8 0)), (1, .int a1), (2, .int a2), (3, .int a3)] → W p l e ({ frames := 6, cells := 0, slots := 0, locals := 173 }) s m args below meth c H locs 0 0 (MQ below (ct_qi G n z.1 J z.2) args s 0 0 (cx_A G)) (F0 m 15 ls [])) {I : mm_T} {a1 : Int32} {a2 : Int32} {a3 : Int32} {H : Heap} {locs : List Loc} {ls : Array Slot} (h : f_X8_behind_L65 N n k15 I a1 a2 a3 = some z) (S : st_ok G n I J s H locs) (hl : lv_has ls 5 [(0, .ref (cx_b G + ly_loc 8 0)), (1, .int a1), (2, .int a2), (3, .int a3)]) : W p l e ({ frames := 6, cells := 0, slots := 0, locals := 173 }) s m args below meth c H locs 0 0 (MQ below (ct_qi G n z.1 J z.2) args s 0 0 (cx_A G)) (F0 m 65 ls []) := by
  unfold f_X8_behind_L65 at h
  obtain ⟨x_10, ex_10⟩ : ∃ y : Int32, y = (a3 + (1 : Int32)) := ⟨_, rfl⟩
  have h := pz_lt_e h ex_10
  refine lv_iinc (v := x_10) (lv' := [(3, .int x_10), (0, .ref (cx_b G + ly_loc 8 0)), (1, .int a1), (2, .int a2)]) X.1 X.2.1 dX8_behind_65 hl (k := 3) rfl (by rw [ex_10]; rfl) (by decide) rfl (fun ls hl => ?_)
  refine lv_goto (tgt := 15) X.1 X.2.1 dX8_behind_68 (by decide) ?_
  exact K15 h S (lv_sub hl [1, 2, 3, 0] rfl)
def f_X8_behind_L15 (N n : Nat) : Nat → mm_T → Int32 → Int32 → Int32 → Option (mm_T × Int32)
  | 0, _, _, _, _ => none
  | cnt + 1, I, a1, a2, a3 => if (I 1 0 3) ≤ a3 then (some (I, (a1 &&& (a2 ^^^ (-1 : Int32))))) else (pz_gd (ix_in a3 7) <| pz_lt ((1 : Int32) <<< ((I 6 (7 * 0 + a3.toNatClampNeg) 3) &&& 31)) fun x_5 => pz_lt (a1 ||| x_5) fun x_6 => pz_gd (ix_in a3 7) <| if (I 15 0 a3.toNatClampNeg) = (-1 : Int32) then (f_X8_behind_L65 N n (f_X8_behind_L15 N n cnt) I x_6 a2 a3) else (pz_lt (a2 ||| x_5) fun x_9 => f_X8_behind_L65 N n (f_X8_behind_L15 N n cnt) I x_6 x_9 a3))
set_option maxRecDepth 100000 in
set_option maxHeartbeats 4000000 in
theorem w_X8_behind_L15 {l : Launch} {G : cx_T} {p : Program} {e : Env} {s : State} {m : MethodId} {args : Array Value} {below : List Frame} {meth : Method} {c : Code} {N n : Nat} {J : mm_T} (X : cx_ok G p s m args meth c cX8_behind 5 RX8 (some .int)) (hn : 144 ≤ n) {z : mm_T × Int32} : ∀ (cnt : Nat) {I : mm_T} {a1 : Int32} {a2 : Int32} {a3 : Int32} {H : Heap} {locs : List Loc} {ls : Array Slot} , f_X8_behind_L15 N n cnt I a1 a2 a3 = some z → st_ok G n I J s H locs → lv_has ls 5 [(0, .ref (cx_b G + ly_loc 8 0)), (1, .int a1), (2, .int a2), (3, .int a3)] → W p l e ({ frames := 6, cells := 0, slots := 0, locals := 173 }) s m args below meth c H locs 0 0 (MQ below (ct_qi G n z.1 J z.2) args s 0 0 (cx_A G)) (F0 m 15 ls []) := by
  intro cnt
  induction cnt with
  | zero =>
    intro I a1 a2 a3 H locs ls h
    rw [f_X8_behind_L15] at h
    cases h
  | succ cnt ih =>
    intro I a1 a2 a3 H locs ls h S hl
    rw [f_X8_behind_L15] at h
    refine lv_iload_n X.1 X.2.1 dX8_behind_15 rfl (lv_at hl 3 rfl) ?_
    refine lv_aload_n X.1 X.2.1 dX8_behind_16 rfl (lv_at hl 0 rfl) ?_
    refine gf_X8_10 X S (by decide) dX8_behind_17 ?_
    refine gf_X8_166 X S (by decide) dX8_behind_20 ?_
    refine lv_icmp_ge (tgt := 71) X.1 X.2.1 dX8_behind_23 (by decide) (fun c_3 => ?_) (fun c_3 => ?_)
    · have h := pz_t c_3 h
      refine lv_iload_n X.1 X.2.1 dX8_behind_71 rfl (lv_at hl 1 rfl) ?_
      refine lv_iload_n X.1 X.2.1 dX8_behind_72 rfl (lv_at hl 2 rfl) ?_
      refine lv_iconst (v := -1) X.1 X.2.1 dX8_behind_73 (by decide) ?_
      refine lv_ixor X.1 X.2.1 dX8_behind_74 ?_
      refine lv_iand X.1 X.2.1 dX8_behind_75 ?_
      cases h
      exact r_iret X S dX8_behind_76
    have h := pz_f c_3 h
    refine lv_iconst (v := 1) X.1 X.2.1 dX8_behind_26 (by decide) ?_
    refine lv_aload_n X.1 X.2.1 dX8_behind_27 rfl (lv_at hl 0 rfl) ?_
    refine gf_X8_10 X S (by decide) dX8_behind_28 ?_
    refine gf_X8_109 X S (by decide) dX8_behind_31 ?_
    refine lv_iload_n X.1 X.2.1 dX8_behind_34 rfl (lv_at hl 3 rfl) ?_
    obtain ⟨g_4, h⟩ := pz_gd_e h
    refine aa_17 X S (by decide) g_4 dX8_behind_35 ?_
    refine gf_X8_188 X S (el_17 (by decide) g_4) dX8_behind_36 ?_
    refine lv_ishl X.1 X.2.1 dX8_behind_39 ?_
    refine lv_topi (fun x_5 ex_5 => ?_)
    have h := pz_lt_e h ex_5
    refine lv_istore (lv' := [(4, .int x_5), (0, .ref (cx_b G + ly_loc 8 0)), (1, .int a1), (2, .int a2), (3, .int a3)]) X.1 X.2.1 dX8_behind_40 hl (by decide) rfl (fun ls hl => ?_)
    refine lv_iload_n X.1 X.2.1 dX8_behind_42 rfl (lv_at hl 2 rfl) ?_
    refine lv_iload X.1 X.2.1 dX8_behind_43 (lv_at hl 0 rfl) ?_
    refine lv_ior X.1 X.2.1 dX8_behind_45 ?_
    refine lv_topi (fun x_6 ex_6 => ?_)
    have h := pz_lt_e h ex_6
    refine lv_istore_n (lv' := [(1, .int x_6), (4, .int x_5), (0, .ref (cx_b G + ly_loc 8 0)), (2, .int a2), (3, .int a3)]) X.1 X.2.1 dX8_behind_46 rfl hl (by decide) rfl (fun ls hl => ?_)
    refine lv_aload_n X.1 X.2.1 dX8_behind_47 rfl (lv_at hl 2 rfl) ?_
    refine gf_X8_37 X S (by decide) dX8_behind_48 ?_
    refine gf_X8_162 X S (by decide) dX8_behind_51 ?_
    refine lv_iload_n X.1 X.2.1 dX8_behind_54 rfl (lv_at hl 4 rfl) ?_
    obtain ⟨g_7, h⟩ := pz_gd_e h
    refine al_15 X S (by decide) g_7 dX8_behind_55 ?_
    refine lv_iconst (v := -1) X.1 X.2.1 dX8_behind_56 (by decide) ?_
    refine lv_icmp_eq (tgt := 65) X.1 X.2.1 dX8_behind_57 (by decide) (fun c_8 => ?_) (fun c_8 => ?_)
    · have h := pz_t c_8 h
      exact w_X8_behind_L65 X hn ih h S (lv_sub hl [2, 0, 3, 4] rfl)
    have h := pz_f c_8 h
    refine lv_iload_n X.1 X.2.1 dX8_behind_60 rfl (lv_at hl 3 rfl) ?_
    refine lv_iload X.1 X.2.1 dX8_behind_61 (lv_at hl 1 rfl) ?_
    refine lv_ior X.1 X.2.1 dX8_behind_63 ?_
    refine lv_topi (fun x_9 ex_9 => ?_)
    have h := pz_lt_e h ex_9
    refine lv_istore_n (lv' := [(2, .int x_9), (1, .int x_6), (4, .int x_5), (0, .ref (cx_b G + ly_loc 8 0)), (3, .int a3)]) X.1 X.2.1 dX8_behind_64 rfl hl (by decide) rfl (fun ls hl => ?_)
    exact w_X8_behind_L65 X hn ih h S (lv_sub hl [3, 1, 0, 4] rfl)
def f_X8_behind (N n : Nat) (I : mm_T) : Option (mm_T × Int32) := pz_bd (f_X8_rule N n I) fun q_1 => pz_bd (f_X8_runDesk N n I q_1 (-1 : Int32)) fun q_2 => f_X8_behind_L15 N n N q_2 (0 : Int32) (0 : Int32) (0 : Int32)
set_option maxRecDepth 100000 in
set_option maxHeartbeats 4000000 in
theorem c_X8_behind {l : Launch} {G : cx_T} {N n : Nat} {I J : mm_T} (hn : 144 ≤ n) {z : mm_T × Int32} (h : f_X8_behind N n I = some z) : ct_m l G n yX8_behind cX8_behind 5 (some .int) ({ frames := 6, cells := 0, slots := 0, locals := 173 }) [.ref (cx_b G + ly_loc 8 0)] I J (ct_qi G n z.1 J z.2) := by
  refine ct_en (by decide) (Nat.le_of_ble_eq_true rfl) ?_
  intro p e s m args below meth c ls X S hl
  have X : cx_ok G p s m args meth c cX8_behind 5 RX8 (some .int) := X
  have hl : lv_has ls 5 [(0, .ref (cx_b G + ly_loc 8 0))] := hl
  unfold f_X8_behind at h
  refine lv_aload_n X.1 X.2.1 dX8_behind_0 rfl (lv_at hl 0 rfl) ?_
  refine lv_aload_n X.1 X.2.1 dX8_behind_1 rfl (lv_at hl 0 rfl) ?_
  obtain ⟨q_1, eq_1, h⟩ := pz_bd_e h
  refine r_Vr X S (c_X8_rule hn eq_1) gd_X8_134 ⟨rfl, ny_X8_rule⟩ ⟨rfl, rfl⟩ ⟨Nat.le_of_ble_eq_true rfl, Nat.le_of_ble_eq_true rfl⟩ (r_recv X S (ly_ok_8 (by decide) S.2.2.2) rfl rfl) rfl rfl hl.1 (Nat.le_of_ble_eq_true rfl) dX8_behind_2 (fun H locs S => ?_)
  refine lv_iconst (v := -1) X.1 X.2.1 dX8_behind_5 (by decide) ?_
  obtain ⟨q_2, eq_2, h⟩ := pz_bd_e h
  refine r_Vv X S (c_X8_runDesk hn eq_2) gd_X8_152 ⟨rfl, ny_X8_runDesk⟩ ⟨rfl, rfl⟩ ⟨Nat.le_of_ble_eq_true rfl, Nat.le_of_ble_eq_true rfl⟩ (r_recv X S (ly_ok_8 (by decide) S.2.2.2) rfl rfl) rfl rfl hl.1 (Nat.le_of_ble_eq_true rfl) dX8_behind_6 (fun H locs S => ?_)
  refine lv_iconst (v := 0) X.1 X.2.1 dX8_behind_9 (by decide) ?_
  refine lv_istore_n (lv' := [(1, .int (0 : Int32)), (0, .ref (cx_b G + ly_loc 8 0))]) X.1 X.2.1 dX8_behind_10 rfl hl (by decide) rfl (fun ls hl => ?_)
  refine lv_iconst (v := 0) X.1 X.2.1 dX8_behind_11 (by decide) ?_
  refine lv_istore_n (lv' := [(2, .int (0 : Int32)), (1, .int (0 : Int32)), (0, .ref (cx_b G + ly_loc 8 0))]) X.1 X.2.1 dX8_behind_12 rfl hl (by decide) rfl (fun ls hl => ?_)
  refine lv_iconst (v := 0) X.1 X.2.1 dX8_behind_13 (by decide) ?_
  refine lv_istore_n (lv' := [(3, .int (0 : Int32)), (2, .int (0 : Int32)), (1, .int (0 : Int32)), (0, .ref (cx_b G + ly_loc 8 0))]) X.1 X.2.1 dX8_behind_14 rfl hl (by decide) rfl (fun ls hl => ?_)
  exact w_X8_behind_L15 X hn N h S (lv_sub hl [3, 2, 1, 0] rfl)
def f_X8_drawn (N n : Nat) (I : mm_T) (p1 : Int32) : Option (mm_T × Int32) := pz_bd (f_X8_rule N n I) fun q_1 => pz_bd (f_X0_begin N n I 0 q_1) fun q_2 => pz_bd (f_X0_callByChance N n q_2 0 p1) fun q_3 => some (q_3, (q_3 0 0 12))
set_option maxRecDepth 100000 in
set_option maxHeartbeats 4000000 in
theorem c_X8_drawn {l : Launch} {G : cx_T} {N n : Nat} {I J : mm_T} {p1 : Int32} (hn : 144 ≤ n) {z : mm_T × Int32} (h : f_X8_drawn N n I p1 = some z) : ct_m l G n yX8_drawn cX8_drawn 2 (some .int) ({ frames := 5, cells := 0, slots := 0, locals := 153 }) [.ref (cx_b G + ly_loc 8 0), .int p1] I J (ct_qi G n z.1 J z.2) := by
  refine ct_en (by decide) (Nat.le_of_ble_eq_true rfl) ?_
  intro p e s m args below meth c ls X S hl
  have X : cx_ok G p s m args meth c cX8_drawn 2 RX8 (some .int) := X
  have hl : lv_has ls 2 [(0, .ref (cx_b G + ly_loc 8 0)), (1, .int p1)] := hl
  unfold f_X8_drawn at h
  refine lv_aload_n X.1 X.2.1 dX8_drawn_0 rfl (lv_at hl 0 rfl) ?_
  refine gf_X8_37 X S (by decide) dX8_drawn_1 ?_
  refine lv_aload_n X.1 X.2.1 dX8_drawn_4 rfl (lv_at hl 0 rfl) ?_
  obtain ⟨q_1, eq_1, h⟩ := pz_bd_e h
  refine r_Vr X S (c_X8_rule hn eq_1) gd_X8_134 ⟨rfl, ny_X8_rule⟩ ⟨rfl, rfl⟩ ⟨Nat.le_of_ble_eq_true rfl, Nat.le_of_ble_eq_true rfl⟩ (r_recv X S (ly_ok_8 (by decide) S.2.2.2) rfl rfl) rfl rfl hl.1 (Nat.le_of_ble_eq_true rfl) dX8_drawn_5 (fun H locs S => ?_)
  obtain ⟨q_2, eq_2, h⟩ := pz_bd_e h
  refine r_Vv X S (c_X0_begin hn (by decide) eq_2) gd_X8_136 ⟨rfl, ny_X0_begin⟩ ⟨rfl, rfl⟩ ⟨Nat.le_of_ble_eq_true rfl, Nat.le_of_ble_eq_true rfl⟩ (r_recv X S (ly_ok_0 (by decide) S.2.2.2) rfl rfl) rfl rfl hl.1 (Nat.le_of_ble_eq_true rfl) dX8_drawn_8 (fun H locs S => ?_)
  refine lv_aload_n X.1 X.2.1 dX8_drawn_11 rfl (lv_at hl 0 rfl) ?_
  refine gf_X8_37 X S (by decide) dX8_drawn_12 ?_
  refine lv_iload_n X.1 X.2.1 dX8_drawn_15 rfl (lv_at hl 1 rfl) ?_
  obtain ⟨q_3, eq_3, h⟩ := pz_bd_e h
  refine r_Vv X S (c_X0_callByChance hn (by decide) eq_3) gd_X8_191 ⟨rfl, ny_X0_callByChance⟩ ⟨rfl, rfl⟩ ⟨Nat.le_of_ble_eq_true rfl, Nat.le_of_ble_eq_true rfl⟩ (r_recv X S (ly_ok_0 (by decide) S.2.2.2) rfl rfl) rfl rfl hl.1 (Nat.le_of_ble_eq_true rfl) dX8_drawn_16 (fun H locs S => ?_)
  refine lv_aload_n X.1 X.2.1 dX8_drawn_19 rfl (lv_at hl 0 rfl) ?_
  refine gf_X8_37 X S (by decide) dX8_drawn_20 ?_
  refine gf_X8_159 X S (by decide) dX8_drawn_23 ?_
  cases h
  exact r_iret X S dX8_drawn_26
def f_X8_commonDivisor_L21 (N : Nat) (p1 : Int32) (p2 : Int32) (k2 : Int32 → Int32 → Int32 → Option (Int32)) (a0 : Int32) (a1 : Int32) (a2 : Int32) : Option (Int32) := pz_lt (a2 + (-1 : Int32)) fun x_6 => k2 a0 a1 x_6
set_option maxRecDepth 100000 in
set_option maxHeartbeats 4000000 in
theorem w_X8_commonDivisor_L21 {l : Launch} {G : cx_T} {p : Program} {e : Env} {s : State} {m : MethodId} {args : Array Value} {below : List Frame} {meth : Method} {c : Code} {N n : Nat} {I J : mm_T} {p1 : Int32} {p2 : Int32} (X : cx_ok G p s m args meth c cX8_commonDivisor 3 RX8 (some .int)) (hn : 111 ≤ n) {k2 : Int32 → Int32 → Int32 → Option (Int32)} {z : Int32} (K2 : ∀ {a0 : Int32} {a1 : Int32} {a2 : Int32} {H : Heap} {locs : List Loc} {ls : Array Slot}, k2 a0 a1 a2 = some z → st_ok G n I J s H locs → lv_has ls 3 [(0, .int a0), (1, .int a1), (2, .int a2)] → W p l e ({ frames := 0, cells := 0, slots := 0, locals := 0 }) s m args below meth c H locs 0 0 (MQ below (ct_qi G n I J z) args s 0 0 (cx_A G)) (F0 m 2 ls [])) {a0 : Int32} {a1 : Int32} {a2 : Int32} {H : Heap} {locs : List Loc} {ls : Array Slot} (h : f_X8_commonDivisor_L21 N p1 p2 k2 a0 a1 a2 = some z) (S : st_ok G n I J s H locs) (hl : lv_has ls 3 [(0, .int a0), (1, .int a1), (2, .int a2)]) : W p l e ({ frames := 0, cells := 0, slots := 0, locals := 0 }) s m args below meth c H locs 0 0 (MQ below (ct_qi G n I J z) args s 0 0 (cx_A G)) (F0 m 21 ls []) := by
  unfold f_X8_commonDivisor_L21 at h
  obtain ⟨x_6, ex_6⟩ : ∃ y : Int32, y = (a2 + (-1 : Int32)) := ⟨_, rfl⟩
  have h := pz_lt_e h ex_6
  refine lv_iinc (v := x_6) (lv' := [(2, .int x_6), (0, .int a0), (1, .int a1)]) X.1 X.2.1 dX8_commonDivisor_21 hl (k := 2) rfl (by rw [ex_6]; rfl) (by decide) rfl (fun ls hl => ?_)
  refine lv_goto (tgt := 2) X.1 X.2.1 dX8_commonDivisor_24 (by decide) ?_
  exact K2 h S (lv_sub hl [1, 2, 0] rfl)
def f_X8_commonDivisor_L2 (N : Nat) (p1 : Int32) (p2 : Int32) : Nat → Int32 → Int32 → Int32 → Option (Int32)
  | 0, _, _, _ => none
  | cnt + 1, a0, a1, a2 => if a2 ≤ (1 : Int32) then (some (1 : Int32)) else (pz_gd (decide (¬ a2 = 0)) <| if (a0 - a0 / a2 * a2) = 0 then (pz_gd (decide (¬ a2 = 0)) <| if (a1 - a1 / a2 * a2) = 0 then (some a2) else (f_X8_commonDivisor_L21 N p1 p2 (f_X8_commonDivisor_L2 N p1 p2 cnt) a0 a1 a2)) else (f_X8_commonDivisor_L21 N p1 p2 (f_X8_commonDivisor_L2 N p1 p2 cnt) a0 a1 a2))
set_option maxRecDepth 100000 in
set_option maxHeartbeats 4000000 in
theorem w_X8_commonDivisor_L2 {l : Launch} {G : cx_T} {p : Program} {e : Env} {s : State} {m : MethodId} {args : Array Value} {below : List Frame} {meth : Method} {c : Code} {N n : Nat} {I J : mm_T} {p1 : Int32} {p2 : Int32} (X : cx_ok G p s m args meth c cX8_commonDivisor 3 RX8 (some .int)) (hn : 111 ≤ n) {z : Int32} : ∀ (cnt : Nat) {a0 : Int32} {a1 : Int32} {a2 : Int32} {H : Heap} {locs : List Loc} {ls : Array Slot} , f_X8_commonDivisor_L2 N p1 p2 cnt a0 a1 a2 = some z → st_ok G n I J s H locs → lv_has ls 3 [(0, .int a0), (1, .int a1), (2, .int a2)] → W p l e ({ frames := 0, cells := 0, slots := 0, locals := 0 }) s m args below meth c H locs 0 0 (MQ below (ct_qi G n I J z) args s 0 0 (cx_A G)) (F0 m 2 ls []) := by
  intro cnt
  induction cnt with
  | zero =>
    intro a0 a1 a2 H locs ls h
    rw [f_X8_commonDivisor_L2] at h
    cases h
  | succ cnt ih =>
    intro a0 a1 a2 H locs ls h S hl
    rw [f_X8_commonDivisor_L2] at h
    refine lv_iload_n X.1 X.2.1 dX8_commonDivisor_2 rfl (lv_at hl 2 rfl) ?_
    refine lv_iconst (v := 1) X.1 X.2.1 dX8_commonDivisor_3 (by decide) ?_
    refine lv_icmp_le (tgt := 27) X.1 X.2.1 dX8_commonDivisor_4 (by decide) (fun c_1 => ?_) (fun c_1 => ?_)
    · have h := pz_t c_1 h
      refine lv_iconst (v := 1) X.1 X.2.1 dX8_commonDivisor_27 (by decide) ?_
      cases h
      exact r_iret X S dX8_commonDivisor_28
    have h := pz_f c_1 h
    refine lv_iload_n X.1 X.2.1 dX8_commonDivisor_7 rfl (lv_at hl 0 rfl) ?_
    refine lv_iload_n X.1 X.2.1 dX8_commonDivisor_8 rfl (lv_at hl 2 rfl) ?_
    obtain ⟨g_2, h⟩ := pz_gd_e h
    refine lv_irem X.1 X.2.1 dX8_commonDivisor_9 (of_decide_eq_true g_2) ?_
    refine lv_if_ne (tgt := 21) X.1 X.2.1 dX8_commonDivisor_10 (by decide) (fun c_3 => ?_) (fun c_3 => ?_)
    · have h := pz_f c_3 h
      exact w_X8_commonDivisor_L21 X hn ih h S (lv_sub hl [0, 1, 2] rfl)
    have h := pz_t c_3 h
    refine lv_iload_n X.1 X.2.1 dX8_commonDivisor_13 rfl (lv_at hl 1 rfl) ?_
    refine lv_iload_n X.1 X.2.1 dX8_commonDivisor_14 rfl (lv_at hl 2 rfl) ?_
    obtain ⟨g_4, h⟩ := pz_gd_e h
    refine lv_irem X.1 X.2.1 dX8_commonDivisor_15 (of_decide_eq_true g_4) ?_
    refine lv_if_ne (tgt := 21) X.1 X.2.1 dX8_commonDivisor_16 (by decide) (fun c_5 => ?_) (fun c_5 => ?_)
    · have h := pz_f c_5 h
      exact w_X8_commonDivisor_L21 X hn ih h S (lv_sub hl [0, 1, 2] rfl)
    have h := pz_t c_5 h
    refine lv_iload_n X.1 X.2.1 dX8_commonDivisor_19 rfl (lv_at hl 2 rfl) ?_
    cases h
    exact r_iret X S dX8_commonDivisor_20
def f_X8_commonDivisor (N : Nat) (p1 : Int32) (p2 : Int32) : Option (Int32) := f_X8_commonDivisor_L2 N p1 p2 N p1 p2 p2
set_option maxRecDepth 100000 in
set_option maxHeartbeats 4000000 in
theorem c_X8_commonDivisor {l : Launch} {G : cx_T} {N n : Nat} {I J : mm_T} {p1 : Int32} {p2 : Int32} {z : Int32} (h : f_X8_commonDivisor N p1 p2 = some z) : ct_m l G n yX8_commonDivisor cX8_commonDivisor 3 (some .int) ({ frames := 0, cells := 0, slots := 0, locals := 0 }) [.int p1, .int p2] I J (ct_qi G n I J z) := by
  refine ct_en (by decide) (Nat.le_of_ble_eq_true rfl) ?_
  intro p e s m args below meth c ls X S hl
  have X : cx_ok G p s m args meth c cX8_commonDivisor 3 RX8 (some .int) := X
  have hl : lv_has ls 3 [(0, .int p1), (1, .int p2)] := hl
  have hn := S.2.2.2
  unfold f_X8_commonDivisor at h
  refine lv_iload_n X.1 X.2.1 dX8_commonDivisor_0 rfl (lv_at hl 1 rfl) ?_
  refine lv_istore_n (lv' := [(2, .int p2), (0, .int p1), (1, .int p2)]) X.1 X.2.1 dX8_commonDivisor_1 rfl hl (by decide) rfl (fun ls hl => ?_)
  exact w_X8_commonDivisor_L2 X hn N h S (lv_sub hl [1, 2, 0] rfl)
def f_X8_chance_L71 (N n : Nat) (p1 : Int32) (p2 : Int32) (p3 : Int32) (k30 : mm_T → Int32 → Int32 → Int32 → Int32 → Int32 → Option (mm_T × Int64)) (I : mm_T) (a1 : Int32) (a2 : Int32) (a3 : Int32) (a4 : Int32) (a5 : Int32) : Option (mm_T × Int64) := pz_lt (a5 + (1 : Int32)) fun x_15 => k30 I a1 a2 a3 a4 x_15
set_option maxRecDepth 100000 in
set_option maxHeartbeats 4000000 in
theorem w_X8_chance_L71 {l : Launch} {G : cx_T} {p : Program} {e : Env} {s : State} {m : MethodId} {args : Array Value} {below : List Frame} {meth : Method} {c : Code} {N n : Nat} {J : mm_T} {p1 : Int32} {p2 : Int32} {p3 : Int32} (X : cx_ok G p s m args meth c cX8_chance 6 RX8 (some .long)) (hn : 144 ≤ n) {k30 : mm_T → Int32 → Int32 → Int32 → Int32 → Int32 → Option (mm_T × Int64)} {z : mm_T × Int64} (K30 : ∀ {I : mm_T} {a1 : Int32} {a2 : Int32} {a3 : Int32} {a4 : Int32} {a5 : Int32} {H : Heap} {locs : List Loc} {ls : Array Slot}, k30 I a1 a2 a3 a4 a5 = some z → st_ok G n I J s H locs → lv_has ls 6 [(0, .ref (cx_b G + ly_loc 8 0)), (1, .int a1), (2, .int a2), (3, .int a3), (4, .int a4), (5, .int a5)] → W p l e ({ frames := 5, cells := 0, slots := 0, locals := 153 }) s m args below meth c H locs 0 0 (MQ below (ct_ql G n z.1 J z.2) args s 0 0 (cx_A G)) (F0 m 30 ls [])) {I : mm_T} {a1 : Int32} {a2 : Int32} {a3 : Int32} {a4 : Int32} {a5 : Int32} {H : Heap} {locs : List Loc} {ls : Array Slot} (h : f_X8_chance_L71 N n p1 p2 p3 k30 I a1 a2 a3 a4 a5 = some z) (S : st_ok G n I J s H locs) (hl : lv_has ls 6 [(0, .ref (cx_b G + ly_loc 8 0)), (1, .int a1), (2, .int a2), (3, .int a3), (4, .int a4), (5, .int a5)]) : W p l e ({ frames := 5, cells := 0, slots := 0, locals := 153 }) s m args below meth c H locs 0 0 (MQ below (ct_ql G n z.1 J z.2) args s 0 0 (cx_A G)) (F0 m 71 ls []) := by
  unfold f_X8_chance_L71 at h
  obtain ⟨x_15, ex_15⟩ : ∃ y : Int32, y = (a5 + (1 : Int32)) := ⟨_, rfl⟩
  have h := pz_lt_e h ex_15
  refine lv_iinc (v := x_15) (lv' := [(5, .int x_15), (0, .ref (cx_b G + ly_loc 8 0)), (1, .int a1), (2, .int a2), (3, .int a3), (4, .int a4)]) X.1 X.2.1 dX8_chance_71 hl (k := 5) rfl (by rw [ex_15]; rfl) (by decide) rfl (fun ls hl => ?_)
  refine lv_goto (tgt := 30) X.1 X.2.1 dX8_chance_74 (by decide) ?_
  exact K30 h S (lv_sub hl [1, 2, 3, 4, 5, 0] rfl)
def f_X8_chance_L30 (N n : Nat) (p1 : Int32) (p2 : Int32) (p3 : Int32) : Nat → mm_T → Int32 → Int32 → Int32 → Int32 → Int32 → Option (mm_T × Int64)
  | 0, _, _, _, _, _, _ => none
  | cnt + 1, I, a1, a2, a3, a4, a5 => if a2 ≤ a5 then (pz_bd (f_X8_commonDivisor N a4 a2) fun q_6 => if a3 = 0 then (pz_gd (decide (¬ q_6 = 0)) <| some (I, ((a4 / q_6).toInt64))) else (pz_gd (decide (¬ q_6 = 0)) <| some (I, ((a2 / q_6).toInt64)))) else (pz_bd (f_X8_rule N n I) fun q_10 => pz_bd (f_X0_begin N n I 0 q_10) fun q_11 => pz_bd (f_X0_callByChance N n q_11 0 (a1 + a5)) fun q_12 => if (q_12 0 0 13) = 0 then (pz_lt (a4 + (1 : Int32)) fun x_14 => f_X8_chance_L71 N n p1 p2 p3 (f_X8_chance_L30 N n p1 p2 p3 cnt) q_12 a1 a2 a3 x_14 a5) else (f_X8_chance_L71 N n p1 p2 p3 (f_X8_chance_L30 N n p1 p2 p3 cnt) q_12 a1 a2 a3 a4 a5))
set_option maxRecDepth 100000 in
set_option maxHeartbeats 4000000 in
theorem w_X8_chance_L30 {l : Launch} {G : cx_T} {p : Program} {e : Env} {s : State} {m : MethodId} {args : Array Value} {below : List Frame} {meth : Method} {c : Code} {N n : Nat} {J : mm_T} {p1 : Int32} {p2 : Int32} {p3 : Int32} (X : cx_ok G p s m args meth c cX8_chance 6 RX8 (some .long)) (hn : 144 ≤ n) {z : mm_T × Int64} : ∀ (cnt : Nat) {I : mm_T} {a1 : Int32} {a2 : Int32} {a3 : Int32} {a4 : Int32} {a5 : Int32} {H : Heap} {locs : List Loc} {ls : Array Slot} , f_X8_chance_L30 N n p1 p2 p3 cnt I a1 a2 a3 a4 a5 = some z → st_ok G n I J s H locs → lv_has ls 6 [(0, .ref (cx_b G + ly_loc 8 0)), (1, .int a1), (2, .int a2), (3, .int a3), (4, .int a4), (5, .int a5)] → W p l e ({ frames := 5, cells := 0, slots := 0, locals := 153 }) s m args below meth c H locs 0 0 (MQ below (ct_ql G n z.1 J z.2) args s 0 0 (cx_A G)) (F0 m 30 ls []) := by
  intro cnt
  induction cnt with
  | zero =>
    intro I a1 a2 a3 a4 a5 H locs ls h
    rw [f_X8_chance_L30] at h
    cases h
  | succ cnt ih =>
    intro I a1 a2 a3 a4 a5 H locs ls h S hl
    rw [f_X8_chance_L30] at h
    refine lv_iload X.1 X.2.1 dX8_chance_30 (lv_at hl 5 rfl) ?_
    refine lv_iload_n X.1 X.2.1 dX8_chance_32 rfl (lv_at hl 2 rfl) ?_
    refine lv_icmp_ge (tgt := 77) X.1 X.2.1 dX8_chance_33 (by decide) (fun c_5 => ?_) (fun c_5 => ?_)
    · have h := pz_t c_5 h
      refine lv_iload X.1 X.2.1 dX8_chance_77 (lv_at hl 4 rfl) ?_
      refine lv_iload_n X.1 X.2.1 dX8_chance_79 rfl (lv_at hl 2 rfl) ?_
      obtain ⟨q_6, eq_6, h⟩ := pz_bd_e h
      refine r_Si X S (c_X8_commonDivisor eq_6) gd_X8_196 ny_X8_commonDivisor ⟨rfl, rfl⟩ ⟨Nat.le_of_ble_eq_true rfl, Nat.le_of_ble_eq_true rfl⟩ rfl rfl hl.1 (Nat.le_of_ble_eq_true rfl) dX8_chance_80 (fun H locs S => ?_)
      refine lv_istore (lv' := [(5, .int q_6), (0, .ref (cx_b G + ly_loc 8 0)), (1, .int a1), (2, .int a2), (3, .int a3), (4, .int a4)]) X.1 X.2.1 dX8_chance_83 hl (by decide) rfl (fun ls hl => ?_)
      refine lv_iload_n X.1 X.2.1 dX8_chance_85 rfl (lv_at hl 4 rfl) ?_
      refine lv_if_ne (tgt := 98) X.1 X.2.1 dX8_chance_86 (by decide) (fun c_7 => ?_) (fun c_7 => ?_)
      · have h := pz_f c_7 h
        refine lv_iload_n X.1 X.2.1 dX8_chance_98 rfl (lv_at hl 3 rfl) ?_
        refine lv_iload X.1 X.2.1 dX8_chance_99 (lv_at hl 0 rfl) ?_
        obtain ⟨g_8, h⟩ := pz_gd_e h
        refine lv_idiv X.1 X.2.1 dX8_chance_101 (of_decide_eq_true g_8) ?_
        refine lv_i2l X.1 X.2.1 dX8_chance_102 rfl ?_
        cases h
        exact r_lret X S dX8_chance_103
      have h := pz_t c_7 h
      refine lv_iload X.1 X.2.1 dX8_chance_89 (lv_at hl 5 rfl) ?_
      refine lv_iload X.1 X.2.1 dX8_chance_91 (lv_at hl 0 rfl) ?_
      obtain ⟨g_9, h⟩ := pz_gd_e h
      refine lv_idiv X.1 X.2.1 dX8_chance_93 (of_decide_eq_true g_9) ?_
      refine lv_i2l X.1 X.2.1 dX8_chance_94 rfl ?_
      refine lv_goto (tgt := 103) X.1 X.2.1 dX8_chance_95 (by decide) ?_
      cases h
      exact r_lret X S dX8_chance_103
    have h := pz_f c_5 h
    refine lv_aload_n X.1 X.2.1 dX8_chance_36 rfl (lv_at hl 0 rfl) ?_
    refine gf_X8_37 X S (by decide) dX8_chance_37 ?_
    refine lv_aload_n X.1 X.2.1 dX8_chance_40 rfl (lv_at hl 0 rfl) ?_
    obtain ⟨q_10, eq_10, h⟩ := pz_bd_e h
    refine r_Vr X S (c_X8_rule hn eq_10) gd_X8_134 ⟨rfl, ny_X8_rule⟩ ⟨rfl, rfl⟩ ⟨Nat.le_of_ble_eq_true rfl, Nat.le_of_ble_eq_true rfl⟩ (r_recv X S (ly_ok_8 (by decide) S.2.2.2) rfl rfl) rfl rfl hl.1 (Nat.le_of_ble_eq_true rfl) dX8_chance_41 (fun H locs S => ?_)
    obtain ⟨q_11, eq_11, h⟩ := pz_bd_e h
    refine r_Vv X S (c_X0_begin hn (by decide) eq_11) gd_X8_136 ⟨rfl, ny_X0_begin⟩ ⟨rfl, rfl⟩ ⟨Nat.le_of_ble_eq_true rfl, Nat.le_of_ble_eq_true rfl⟩ (r_recv X S (ly_ok_0 (by decide) S.2.2.2) rfl rfl) rfl rfl hl.1 (Nat.le_of_ble_eq_true rfl) dX8_chance_44 (fun H locs S => ?_)
    refine lv_aload_n X.1 X.2.1 dX8_chance_47 rfl (lv_at hl 0 rfl) ?_
    refine gf_X8_37 X S (by decide) dX8_chance_48 ?_
    refine lv_iload_n X.1 X.2.1 dX8_chance_51 rfl (lv_at hl 1 rfl) ?_
    refine lv_iload X.1 X.2.1 dX8_chance_52 (lv_at hl 5 rfl) ?_
    refine lv_iadd X.1 X.2.1 dX8_chance_54 ?_
    obtain ⟨q_12, eq_12, h⟩ := pz_bd_e h
    refine r_Vv X S (c_X0_callByChance hn (by decide) eq_12) gd_X8_191 ⟨rfl, ny_X0_callByChance⟩ ⟨rfl, rfl⟩ ⟨Nat.le_of_ble_eq_true rfl, Nat.le_of_ble_eq_true rfl⟩ (r_recv X S (ly_ok_0 (by decide) S.2.2.2) rfl rfl) rfl rfl hl.1 (Nat.le_of_ble_eq_true rfl) dX8_chance_55 (fun H locs S => ?_)
    refine lv_aload_n X.1 X.2.1 dX8_chance_58 rfl (lv_at hl 0 rfl) ?_
    refine gf_X8_37 X S (by decide) dX8_chance_59 ?_
    refine gf_X8_175 X S (by decide) dX8_chance_62 ?_
    refine lv_if_ne (tgt := 71) X.1 X.2.1 dX8_chance_65 (by decide) (fun c_13 => ?_) (fun c_13 => ?_)
    · have h := pz_f c_13 h
      exact w_X8_chance_L71 X hn ih h S (lv_sub hl [0, 1, 2, 3, 4, 5] rfl)
    have h := pz_t c_13 h
    obtain ⟨x_14, ex_14⟩ : ∃ y : Int32, y = (a4 + (1 : Int32)) := ⟨_, rfl⟩
    have h := pz_lt_e h ex_14
    refine lv_iinc (v := x_14) (lv' := [(4, .int x_14), (0, .ref (cx_b G + ly_loc 8 0)), (1, .int a1), (2, .int a2), (3, .int a3), (5, .int a5)]) X.1 X.2.1 dX8_chance_68 hl (k := 4) rfl (by rw [ex_14]; rfl) (by decide) rfl (fun ls hl => ?_)
    exact w_X8_chance_L71 X hn ih h S (lv_sub hl [1, 2, 3, 4, 0, 5] rfl)
def f_X8_chance (N n : Nat) (I : mm_T) (p1 : Int32) (p2 : Int32) (p3 : Int32) : Option (mm_T × Int64) := if p2 < (1 : Int32) then (some (I, (-4611686018427387904 : Int64))) else (if (20 : Int32) < p2 then (some (I, (-4611686018427387904 : Int64))) else (if p3 < 0 then (some (I, (-4611686018427387904 : Int64))) else (if p3 ≤ (1 : Int32) then (f_X8_chance_L30 N n p1 p2 p3 N I p1 p2 p3 (0 : Int32) (0 : Int32)) else (some (I, (-4611686018427387904 : Int64))))))
set_option maxRecDepth 100000 in
set_option maxHeartbeats 4000000 in
theorem c_X8_chance {l : Launch} {G : cx_T} {N n : Nat} {I J : mm_T} {p1 : Int32} {p2 : Int32} {p3 : Int32} (hn : 144 ≤ n) {z : mm_T × Int64} (h : f_X8_chance N n I p1 p2 p3 = some z) : ct_m l G n yX8_chance cX8_chance 6 (some .long) ({ frames := 5, cells := 0, slots := 0, locals := 153 }) [.ref (cx_b G + ly_loc 8 0), .int p1, .int p2, .int p3] I J (ct_ql G n z.1 J z.2) := by
  refine ct_en (by decide) (Nat.le_of_ble_eq_true rfl) ?_
  intro p e s m args below meth c ls X S hl
  have X : cx_ok G p s m args meth c cX8_chance 6 RX8 (some .long) := X
  have hl : lv_has ls 6 [(0, .ref (cx_b G + ly_loc 8 0)), (1, .int p1), (2, .int p2), (3, .int p3)] := hl
  unfold f_X8_chance at h
  refine lv_iload_n X.1 X.2.1 dX8_chance_0 rfl (lv_at hl 2 rfl) ?_
  refine lv_iconst (v := 1) X.1 X.2.1 dX8_chance_1 (by decide) ?_
  refine lv_icmp_lt (tgt := 20) X.1 X.2.1 dX8_chance_2 (by decide) (fun c_1 => ?_) (fun c_1 => ?_)
  · have h := pz_t c_1 h
    refine lv_ldc2 (v := -4611686018427387904) X.1 X.2.1 X.2.2.2.1 (X.2.2.2.2.1 _ kw_X8_194) dX8_chance_20 ?_
    cases h
    exact r_lret X S dX8_chance_23
  have h := pz_f c_1 h
  refine lv_iload_n X.1 X.2.1 dX8_chance_5 rfl (lv_at hl 2 rfl) ?_
  refine lv_bipush (v := 20) X.1 X.2.1 dX8_chance_6 (by decide) ?_
  refine lv_icmp_gt (tgt := 20) X.1 X.2.1 dX8_chance_8 (by decide) (fun c_2 => ?_) (fun c_2 => ?_)
  · have h := pz_t c_2 h
    refine lv_ldc2 (v := -4611686018427387904) X.1 X.2.1 X.2.2.2.1 (X.2.2.2.2.1 _ kw_X8_194) dX8_chance_20 ?_
    cases h
    exact r_lret X S dX8_chance_23
  have h := pz_f c_2 h
  refine lv_iload_n X.1 X.2.1 dX8_chance_11 rfl (lv_at hl 3 rfl) ?_
  refine lv_if_lt (tgt := 20) X.1 X.2.1 dX8_chance_12 (by decide) (fun c_3 => ?_) (fun c_3 => ?_)
  · have h := pz_t c_3 h
    refine lv_ldc2 (v := -4611686018427387904) X.1 X.2.1 X.2.2.2.1 (X.2.2.2.2.1 _ kw_X8_194) dX8_chance_20 ?_
    cases h
    exact r_lret X S dX8_chance_23
  have h := pz_f c_3 h
  refine lv_iload_n X.1 X.2.1 dX8_chance_15 rfl (lv_at hl 3 rfl) ?_
  refine lv_iconst (v := 1) X.1 X.2.1 dX8_chance_16 (by decide) ?_
  refine lv_icmp_le (tgt := 24) X.1 X.2.1 dX8_chance_17 (by decide) (fun c_4 => ?_) (fun c_4 => ?_)
  · have h := pz_t c_4 h
    refine lv_iconst (v := 0) X.1 X.2.1 dX8_chance_24 (by decide) ?_
    refine lv_istore (lv' := [(4, .int (0 : Int32)), (0, .ref (cx_b G + ly_loc 8 0)), (1, .int p1), (2, .int p2), (3, .int p3)]) X.1 X.2.1 dX8_chance_25 hl (by decide) rfl (fun ls hl => ?_)
    refine lv_iconst (v := 0) X.1 X.2.1 dX8_chance_27 (by decide) ?_
    refine lv_istore (lv' := [(5, .int (0 : Int32)), (4, .int (0 : Int32)), (0, .ref (cx_b G + ly_loc 8 0)), (1, .int p1), (2, .int p2), (3, .int p3)]) X.1 X.2.1 dX8_chance_28 hl (by decide) rfl (fun ls hl => ?_)
    exact w_X8_chance_L30 X hn N h S (lv_sub hl [2, 3, 4, 5, 1, 0] rfl)
  have h := pz_f c_4 h
  refine lv_ldc2 (v := -4611686018427387904) X.1 X.2.1 X.2.2.2.1 (X.2.2.2.2.1 _ kw_X8_194) dX8_chance_20 ?_
  cases h
  exact r_lret X S dX8_chance_23
def f_X8_image (N n : Nat) (I : mm_T) : Option (mm_T × Int32) := pz_bd (f_X1_become N n I 1 0) fun q_1 => pz_lt (mm_up q_1 8 0 2 (1 : Int32)) fun I_2 => some (I_2, (I_2 1 1 3))
set_option maxRecDepth 100000 in
set_option maxHeartbeats 4000000 in
theorem c_X8_image {l : Launch} {G : cx_T} {N n : Nat} {I J : mm_T} (hn : 144 ≤ n) {z : mm_T × Int32} (h : f_X8_image N n I = some z) : ct_m l G n yX8_image cX8_image 1 (some .int) ({ frames := 2, cells := 0, slots := 0, locals := 43 }) [.ref (cx_b G + ly_loc 8 0)] I J (ct_qi G n z.1 J z.2) := by
  refine ct_en (by decide) (Nat.le_of_ble_eq_true rfl) ?_
  intro p e s m args below meth c ls X S hl
  have X : cx_ok G p s m args meth c cX8_image 1 RX8 (some .int) := X
  have hl : lv_has ls 1 [(0, .ref (cx_b G + ly_loc 8 0))] := hl
  unfold f_X8_image at h
  refine lv_aload_n X.1 X.2.1 dX8_image_0 rfl (lv_at hl 0 rfl) ?_
  refine gf_X8_16 X S (by decide) dX8_image_1 ?_
  refine lv_aload_n X.1 X.2.1 dX8_image_4 rfl (lv_at hl 0 rfl) ?_
  refine gf_X8_10 X S (by decide) dX8_image_5 ?_
  obtain ⟨q_1, eq_1, h⟩ := pz_bd_e h
  refine r_Vv X S (c_X1_become hn (by decide) (by decide) eq_1) gd_X8_199 ⟨rfl, ny_X1_become⟩ ⟨rfl, rfl⟩ ⟨Nat.le_of_ble_eq_true rfl, Nat.le_of_ble_eq_true rfl⟩ (r_recv X S (ly_ok_1 (by decide) S.2.2.2) rfl rfl) rfl rfl hl.1 (Nat.le_of_ble_eq_true rfl) dX8_image_8 (fun H locs S => ?_)
  refine lv_aload_n X.1 X.2.1 dX8_image_11 rfl (lv_at hl 0 rfl) ?_
  refine lv_iconst (v := 1) X.1 X.2.1 dX8_image_12 (by decide) ?_
  refine pf_X8_202 X S (by decide) ⟨rfl, rfl⟩ dX8_image_13 (fun I_2 H locs eI_2 S => ?_)
  have h := pz_lt_e h eI_2
  refine lv_aload_n X.1 X.2.1 dX8_image_16 rfl (lv_at hl 0 rfl) ?_
  refine gf_X8_16 X S (by decide) dX8_image_17 ?_
  refine gf_X8_166 X S (by decide) dX8_image_20 ?_
  cases h
  exact r_iret X S dX8_image_23
def f_X8_back (N n : Nat) (I : mm_T) : Option (mm_T × Int32) := if (I 8 0 2) = 0 then (some (I, (-3 : Int32))) else (pz_bd (f_X1_become N n I 0 1) fun q_2 => some (q_2, (q_2 1 0 3)))
set_option maxRecDepth 100000 in
set_option maxHeartbeats 4000000 in
theorem c_X8_back {l : Launch} {G : cx_T} {N n : Nat} {I J : mm_T} (hn : 144 ≤ n) {z : mm_T × Int32} (h : f_X8_back N n I = some z) : ct_m l G n yX8_back cX8_back 1 (some .int) ({ frames := 2, cells := 0, slots := 0, locals := 43 }) [.ref (cx_b G + ly_loc 8 0)] I J (ct_qi G n z.1 J z.2) := by
  refine ct_en (by decide) (Nat.le_of_ble_eq_true rfl) ?_
  intro p e s m args below meth c ls X S hl
  have X : cx_ok G p s m args meth c cX8_back 1 RX8 (some .int) := X
  have hl : lv_has ls 1 [(0, .ref (cx_b G + ly_loc 8 0))] := hl
  unfold f_X8_back at h
  refine lv_aload_n X.1 X.2.1 dX8_back_0 rfl (lv_at hl 0 rfl) ?_
  refine gf_X8_202 X S (by decide) dX8_back_1 ?_
  refine lv_if_ne (tgt := 10) X.1 X.2.1 dX8_back_4 (by decide) (fun c_1 => ?_) (fun c_1 => ?_)
  · have h := pz_f c_1 h
    refine lv_aload_n X.1 X.2.1 dX8_back_10 rfl (lv_at hl 0 rfl) ?_
    refine gf_X8_10 X S (by decide) dX8_back_11 ?_
    refine lv_aload_n X.1 X.2.1 dX8_back_14 rfl (lv_at hl 0 rfl) ?_
    refine gf_X8_16 X S (by decide) dX8_back_15 ?_
    obtain ⟨q_2, eq_2, h⟩ := pz_bd_e h
    refine r_Vv X S (c_X1_become hn (by decide) (by decide) eq_2) gd_X8_199 ⟨rfl, ny_X1_become⟩ ⟨rfl, rfl⟩ ⟨Nat.le_of_ble_eq_true rfl, Nat.le_of_ble_eq_true rfl⟩ (r_recv X S (ly_ok_1 (by decide) S.2.2.2) rfl rfl) rfl rfl hl.1 (Nat.le_of_ble_eq_true rfl) dX8_back_18 (fun H locs S => ?_)
    refine lv_aload_n X.1 X.2.1 dX8_back_21 rfl (lv_at hl 0 rfl) ?_
    refine gf_X8_10 X S (by decide) dX8_back_22 ?_
    refine gf_X8_166 X S (by decide) dX8_back_25 ?_
    cases h
    exact r_iret X S dX8_back_28
  have h := pz_t c_1 h
  refine lv_bipush (v := -3) X.1 X.2.1 dX8_back_7 (by decide) ?_
  cases h
  exact r_iret X S dX8_back_9
def f_X8_count (N n : Nat) (I : mm_T) (p1 : Int32) : Option (Int32) := pz_lt p1 fun x_1 => if x_1 = (0 : Int32) then (some (I 1 0 2)) else if x_1 = (1 : Int32) then (some (I 1 0 3)) else if x_1 = (2 : Int32) then (some ((I 1 0 4) + (99 : Int32))) else if x_1 = (3 : Int32) then (some (I 1 0 5)) else if x_1 = (4 : Int32) then (some (I 8 0 5)) else if x_1 = (5 : Int32) then (some (I 3 0 1)) else if x_1 = (6 : Int32) then (some (I 1 0 6)) else (some (-2 : Int32))
set_option maxRecDepth 100000 in
set_option maxHeartbeats 4000000 in
theorem c_X8_count {l : Launch} {G : cx_T} {N n : Nat} {I J : mm_T} {p1 : Int32} (hn : 144 ≤ n) {z : Int32} (h : f_X8_count N n I p1 = some z) : ct_m l G n yX8_count cX8_count 2 (some .int) ({ frames := 0, cells := 0, slots := 0, locals := 0 }) [.ref (cx_b G + ly_loc 8 0), .int p1] I J (ct_qi G n I J z) := by
  refine ct_en (by decide) (Nat.le_of_ble_eq_true rfl) ?_
  intro p e s m args below meth c ls X S hl
  have X : cx_ok G p s m args meth c cX8_count 2 RX8 (some .int) := X
  have hl : lv_has ls 2 [(0, .ref (cx_b G + ly_loc 8 0)), (1, .int p1)] := hl
  unfold f_X8_count at h
  refine lv_iload_n X.1 X.2.1 dX8_count_0 rfl (lv_at hl 1 rfl) ?_
  refine lv_topi (fun x_1 ex_1 => ?_)
  have h := pz_lt_e h ex_1
  rcases Decidable.em (x_1 = (0 : Int32)) with c_2 | c_2
  · have h := pz_t c_2 h
    refine lv_tableIn (off := 43) (tgt := 44) X.1 X.2.1 dX8_count_1 (by rw [c_2]; decide +kernel) (by rw [c_2]; decide +kernel) (by rw [c_2]; decide +kernel) (by decide) ?_
    refine lv_aload_n X.1 X.2.1 dX8_count_44 rfl (lv_at hl 0 rfl) ?_
    refine gf_X8_10 X S (by decide) dX8_count_45 ?_
    refine gf_X8_206 X S (by decide) dX8_count_48 ?_
    cases h
    exact r_iret X S dX8_count_51
  have h := pz_f c_2 h
  rcases Decidable.em (x_1 = (1 : Int32)) with c_3 | c_3
  · have h := pz_t c_3 h
    refine lv_tableIn (off := 51) (tgt := 52) X.1 X.2.1 dX8_count_1 (by rw [c_3]; decide +kernel) (by rw [c_3]; decide +kernel) (by rw [c_3]; decide +kernel) (by decide) ?_
    refine lv_aload_n X.1 X.2.1 dX8_count_52 rfl (lv_at hl 0 rfl) ?_
    refine gf_X8_10 X S (by decide) dX8_count_53 ?_
    refine gf_X8_166 X S (by decide) dX8_count_56 ?_
    cases h
    exact r_iret X S dX8_count_59
  have h := pz_f c_3 h
  rcases Decidable.em (x_1 = (2 : Int32)) with c_4 | c_4
  · have h := pz_t c_4 h
    refine lv_tableIn (off := 59) (tgt := 60) X.1 X.2.1 dX8_count_1 (by rw [c_4]; decide +kernel) (by rw [c_4]; decide +kernel) (by rw [c_4]; decide +kernel) (by decide) ?_
    refine lv_aload_n X.1 X.2.1 dX8_count_60 rfl (lv_at hl 0 rfl) ?_
    refine gf_X8_10 X S (by decide) dX8_count_61 ?_
    refine gf_X8_209 X S (by decide) dX8_count_64 ?_
    refine lv_bipush (v := 99) X.1 X.2.1 dX8_count_67 (by decide) ?_
    refine lv_iadd X.1 X.2.1 dX8_count_69 ?_
    cases h
    exact r_iret X S dX8_count_70
  have h := pz_f c_4 h
  rcases Decidable.em (x_1 = (3 : Int32)) with c_5 | c_5
  · have h := pz_t c_5 h
    refine lv_tableIn (off := 70) (tgt := 71) X.1 X.2.1 dX8_count_1 (by rw [c_5]; decide +kernel) (by rw [c_5]; decide +kernel) (by rw [c_5]; decide +kernel) (by decide) ?_
    refine lv_aload_n X.1 X.2.1 dX8_count_71 rfl (lv_at hl 0 rfl) ?_
    refine gf_X8_10 X S (by decide) dX8_count_72 ?_
    refine gf_X8_210 X S (by decide) dX8_count_75 ?_
    cases h
    exact r_iret X S dX8_count_78
  have h := pz_f c_5 h
  rcases Decidable.em (x_1 = (4 : Int32)) with c_6 | c_6
  · have h := pz_t c_6 h
    refine lv_tableIn (off := 78) (tgt := 79) X.1 X.2.1 dX8_count_1 (by rw [c_6]; decide +kernel) (by rw [c_6]; decide +kernel) (by rw [c_6]; decide +kernel) (by decide) ?_
    refine lv_aload_n X.1 X.2.1 dX8_count_79 rfl (lv_at hl 0 rfl) ?_
    refine gf_X8_78 X S (by decide) dX8_count_80 ?_
    cases h
    exact r_iret X S dX8_count_83
  have h := pz_f c_6 h
  rcases Decidable.em (x_1 = (5 : Int32)) with c_7 | c_7
  · have h := pz_t c_7 h
    refine lv_tableIn (off := 83) (tgt := 84) X.1 X.2.1 dX8_count_1 (by rw [c_7]; decide +kernel) (by rw [c_7]; decide +kernel) (by rw [c_7]; decide +kernel) (by decide) ?_
    refine lv_aload_n X.1 X.2.1 dX8_count_84 rfl (lv_at hl 0 rfl) ?_
    refine gf_X8_22 X S (by decide) dX8_count_85 ?_
    refine gf_X8_118 X S (by decide) dX8_count_88 ?_
    cases h
    exact r_iret X S dX8_count_91
  have h := pz_f c_7 h
  rcases Decidable.em (x_1 = (6 : Int32)) with c_8 | c_8
  · have h := pz_t c_8 h
    refine lv_tableIn (off := 91) (tgt := 92) X.1 X.2.1 dX8_count_1 (by rw [c_8]; decide +kernel) (by rw [c_8]; decide +kernel) (by rw [c_8]; decide +kernel) (by decide) ?_
    refine lv_aload_n X.1 X.2.1 dX8_count_92 rfl (lv_at hl 0 rfl) ?_
    refine gf_X8_10 X S (by decide) dX8_count_93 ?_
    refine gf_X8_124 X S (by decide) dX8_count_96 ?_
    cases h
    exact r_iret X S dX8_count_99
  have h := pz_f c_8 h
  refine lv_tableOut (tgt := 100) X.1 X.2.1 dX8_count_1 (pz_out 0 6 [(0 : Int32), (1 : Int32), (2 : Int32), (3 : Int32), (4 : Int32), (5 : Int32), (6 : Int32)] (by decide +kernel) (by simp only [List.forall_mem_cons, List.not_mem_nil, false_imp_iff, implies_true, and_true]; exact ⟨c_2, c_3, c_4, c_5, c_6, c_7, c_8⟩)) (by decide) ?_
  refine lv_bipush (v := -2) X.1 X.2.1 dX8_count_100 (by decide) ?_
  cases h
  exact r_iret X S dX8_count_102
def f_X8_sheet (N n : Nat) (I : mm_T) (p1 : Int32) (p2 : Int32) (p3 : Int32) : Option (mm_T × Int32) := pz_bd (f_X8_isSheet N p1) fun q_1 => if q_1 = 0 then (some (I, (-2 : Int32))) else (if p2 < (-1 : Int32) then (some (I, (-2 : Int32))) else (if p2 ≤ (2 : Int32) then (if p2 = (-1 : Int32) then (pz_gd (ix_in p1 4) <| pz_gd (decide (¬ (I 26 0 p1.toNatClampNeg) = -1)) <| pz_bd (f_X5_remake N n I (p1.toNatClampNeg) (-1 : Int32) (0 : Int32)) fun q_13 => some (q_13, (1 : Int32))) else (if p3 ≤ (40 : Int32) then (if 0 ≤ p3 then (pz_gd (ix_in p1 4) <| pz_gd (decide (¬ (I 26 0 p1.toNatClampNeg) = -1)) <| pz_bd (f_X5_remake N n I (p1.toNatClampNeg) p2 p3) fun q_10 => some (q_10, (1 : Int32))) else (some (I, (-14 : Int32)))) else (some (I, (-2 : Int32))))) else (some (I, (-2 : Int32)))))
set_option maxRecDepth 100000 in
set_option maxHeartbeats 4000000 in
theorem c_X8_sheet {l : Launch} {G : cx_T} {N n : Nat} {I J : mm_T} {p1 : Int32} {p2 : Int32} {p3 : Int32} (hn : 144 ≤ n) {z : mm_T × Int32} (h : f_X8_sheet N n I p1 p2 p3 = some z) : ct_m l G n yX8_sheet cX8_sheet 4 (some .int) ({ frames := 2, cells := 0, slots := 0, locals := 82 }) [.ref (cx_b G + ly_loc 8 0), .int p1, .int p2, .int p3] I J (ct_qi G n z.1 J z.2) := by
  refine ct_en (by decide) (Nat.le_of_ble_eq_true rfl) ?_
  intro p e s m args below meth c ls X S hl
  have X : cx_ok G p s m args meth c cX8_sheet 4 RX8 (some .int) := X
  have hl : lv_has ls 4 [(0, .ref (cx_b G + ly_loc 8 0)), (1, .int p1), (2, .int p2), (3, .int p3)] := hl
  unfold f_X8_sheet at h
  refine lv_iload_n X.1 X.2.1 dX8_sheet_0 rfl (lv_at hl 1 rfl) ?_
  obtain ⟨q_1, eq_1, h⟩ := pz_bd_e h
  refine r_Si X S (c_X8_isSheet eq_1) gd_X8_178 ny_X8_isSheet ⟨rfl, rfl⟩ ⟨Nat.le_of_ble_eq_true rfl, Nat.le_of_ble_eq_true rfl⟩ rfl rfl hl.1 (Nat.le_of_ble_eq_true rfl) dX8_sheet_1 (fun H locs S => ?_)
  refine lv_if_eq (tgt := 17) X.1 X.2.1 dX8_sheet_4 (by decide) (fun c_2 => ?_) (fun c_2 => ?_)
  · have h := pz_t c_2 h
    refine lv_bipush (v := -2) X.1 X.2.1 dX8_sheet_17 (by decide) ?_
    cases h
    exact r_iret X S dX8_sheet_19
  have h := pz_f c_2 h
  refine lv_iload_n X.1 X.2.1 dX8_sheet_7 rfl (lv_at hl 2 rfl) ?_
  refine lv_iconst (v := -1) X.1 X.2.1 dX8_sheet_8 (by decide) ?_
  refine lv_icmp_lt (tgt := 17) X.1 X.2.1 dX8_sheet_9 (by decide) (fun c_3 => ?_) (fun c_3 => ?_)
  · have h := pz_t c_3 h
    refine lv_bipush (v := -2) X.1 X.2.1 dX8_sheet_17 (by decide) ?_
    cases h
    exact r_iret X S dX8_sheet_19
  have h := pz_f c_3 h
  refine lv_iload_n X.1 X.2.1 dX8_sheet_12 rfl (lv_at hl 2 rfl) ?_
  refine lv_iconst (v := 2) X.1 X.2.1 dX8_sheet_13 (by decide) ?_
  refine lv_icmp_le (tgt := 20) X.1 X.2.1 dX8_sheet_14 (by decide) (fun c_4 => ?_) (fun c_4 => ?_)
  · have h := pz_t c_4 h
    refine lv_iload_n X.1 X.2.1 dX8_sheet_20 rfl (lv_at hl 2 rfl) ?_
    refine lv_iconst (v := -1) X.1 X.2.1 dX8_sheet_21 (by decide) ?_
    refine lv_icmp_ne (tgt := 38) X.1 X.2.1 dX8_sheet_22 (by decide) (fun c_5 => ?_) (fun c_5 => ?_)
    · have h := pz_f c_5 h
      refine lv_iload_n X.1 X.2.1 dX8_sheet_38 rfl (lv_at hl 3 rfl) ?_
      refine lv_bipush (v := 40) X.1 X.2.1 dX8_sheet_39 (by decide) ?_
      refine lv_icmp_le (tgt := 47) X.1 X.2.1 dX8_sheet_41 (by decide) (fun c_6 => ?_) (fun c_6 => ?_)
      · have h := pz_t c_6 h
        refine lv_iload_n X.1 X.2.1 dX8_sheet_47 rfl (lv_at hl 3 rfl) ?_
        refine lv_if_ge (tgt := 54) X.1 X.2.1 dX8_sheet_48 (by decide) (fun c_7 => ?_) (fun c_7 => ?_)
        · have h := pz_t c_7 h
          refine lv_aload_n X.1 X.2.1 dX8_sheet_54 rfl (lv_at hl 0 rfl) ?_
          refine gf_X8_50 X S (by decide) dX8_sheet_55 ?_
          refine lv_iload_n X.1 X.2.1 dX8_sheet_58 rfl (lv_at hl 1 rfl) ?_
          obtain ⟨g_8, h⟩ := pz_gd_e h
          obtain ⟨g_9, h⟩ := pz_gd_e h
          refine aa_26 X S (by decide) g_8 (of_decide_eq_true g_9) dX8_sheet_59 ?_
          refine lv_iload_n X.1 X.2.1 dX8_sheet_60 rfl (lv_at hl 2 rfl) ?_
          refine lv_iload_n X.1 X.2.1 dX8_sheet_61 rfl (lv_at hl 3 rfl) ?_
          obtain ⟨q_10, eq_10, h⟩ := pz_bd_e h
          refine r_Vv X S (c_X5_remake hn (ix_lt g_8) eq_10) gd_X8_213 ⟨rfl, ny_X5_remake⟩ ⟨rfl, rfl⟩ ⟨Nat.le_of_ble_eq_true rfl, Nat.le_of_ble_eq_true rfl⟩ (r_recv X S (ly_ok_5 (ix_lt g_8) hn) rfl rfl) rfl rfl hl.1 (Nat.le_of_ble_eq_true rfl) dX8_sheet_62 (fun H locs S => ?_)
          refine lv_iconst (v := 1) X.1 X.2.1 dX8_sheet_65 (by decide) ?_
          cases h
          exact r_iret X S dX8_sheet_66
        have h := pz_f c_7 h
        refine lv_bipush (v := -14) X.1 X.2.1 dX8_sheet_51 (by decide) ?_
        cases h
        exact r_iret X S dX8_sheet_53
      have h := pz_f c_6 h
      refine lv_bipush (v := -2) X.1 X.2.1 dX8_sheet_44 (by decide) ?_
      cases h
      exact r_iret X S dX8_sheet_46
    have h := pz_t c_5 h
    refine lv_aload_n X.1 X.2.1 dX8_sheet_25 rfl (lv_at hl 0 rfl) ?_
    refine gf_X8_50 X S (by decide) dX8_sheet_26 ?_
    refine lv_iload_n X.1 X.2.1 dX8_sheet_29 rfl (lv_at hl 1 rfl) ?_
    obtain ⟨g_11, h⟩ := pz_gd_e h
    obtain ⟨g_12, h⟩ := pz_gd_e h
    refine aa_26 X S (by decide) g_11 (of_decide_eq_true g_12) dX8_sheet_30 ?_
    refine lv_iconst (v := -1) X.1 X.2.1 dX8_sheet_31 (by decide) ?_
    refine lv_iconst (v := 0) X.1 X.2.1 dX8_sheet_32 (by decide) ?_
    obtain ⟨q_13, eq_13, h⟩ := pz_bd_e h
    refine r_Vv X S (c_X5_remake hn (ix_lt g_11) eq_13) gd_X8_213 ⟨rfl, ny_X5_remake⟩ ⟨rfl, rfl⟩ ⟨Nat.le_of_ble_eq_true rfl, Nat.le_of_ble_eq_true rfl⟩ (r_recv X S (ly_ok_5 (ix_lt g_11) hn) rfl rfl) rfl rfl hl.1 (Nat.le_of_ble_eq_true rfl) dX8_sheet_33 (fun H locs S => ?_)
    refine lv_iconst (v := 1) X.1 X.2.1 dX8_sheet_36 (by decide) ?_
    cases h
    exact r_iret X S dX8_sheet_37
  have h := pz_f c_4 h
  refine lv_bipush (v := -2) X.1 X.2.1 dX8_sheet_17 (by decide) ?_
  cases h
  exact r_iret X S dX8_sheet_19
def f_X8_cell (N n : Nat) (I : mm_T) (p1 : Int32) (p2 : Int32) (p3 : Int32) : Option (mm_T × Int32) := pz_bd (f_X8_isSheet N p1) fun q_1 => if q_1 = 0 then (some (I, (-2 : Int32))) else (pz_gd (ix_in p1 4) <| pz_gd (decide (¬ (I 26 0 p1.toNatClampNeg) = -1)) <| if (I 5 (p1.toNatClampNeg) 1) = (-1 : Int32) then (some (I, (-11 : Int32))) else (pz_bd (f_X5_holds N n I (p1.toNatClampNeg) p2 (1 : Int32)) fun q_6 => if q_6 = 0 then (some (I, (-12 : Int32))) else (pz_bd (f_X5_put N n I (p1.toNatClampNeg) p2 p3) fun q_8 => some (q_8, (1 : Int32)))))
set_option maxRecDepth 100000 in
set_option maxHeartbeats 4000000 in
theorem c_X8_cell {l : Launch} {G : cx_T} {N n : Nat} {I J : mm_T} {p1 : Int32} {p2 : Int32} {p3 : Int32} (hn : 144 ≤ n) {z : mm_T × Int32} (h : f_X8_cell N n I p1 p2 p3 = some z) : ct_m l G n yX8_cell cX8_cell 5 (some .int) ({ frames := 1, cells := 0, slots := 0, locals := 22 }) [.ref (cx_b G + ly_loc 8 0), .int p1, .int p2, .int p3] I J (ct_qi G n z.1 J z.2) := by
  refine ct_en (by decide) (Nat.le_of_ble_eq_true rfl) ?_
  intro p e s m args below meth c ls X S hl
  have X : cx_ok G p s m args meth c cX8_cell 5 RX8 (some .int) := X
  have hl : lv_has ls 5 [(0, .ref (cx_b G + ly_loc 8 0)), (1, .int p1), (2, .int p2), (3, .int p3)] := hl
  unfold f_X8_cell at h
  refine lv_iload_n X.1 X.2.1 dX8_cell_0 rfl (lv_at hl 1 rfl) ?_
  obtain ⟨q_1, eq_1, h⟩ := pz_bd_e h
  refine r_Si X S (c_X8_isSheet eq_1) gd_X8_178 ny_X8_isSheet ⟨rfl, rfl⟩ ⟨Nat.le_of_ble_eq_true rfl, Nat.le_of_ble_eq_true rfl⟩ rfl rfl hl.1 (Nat.le_of_ble_eq_true rfl) dX8_cell_1 (fun H locs S => ?_)
  refine lv_if_ne (tgt := 10) X.1 X.2.1 dX8_cell_4 (by decide) (fun c_2 => ?_) (fun c_2 => ?_)
  · have h := pz_f c_2 h
    refine lv_aload_n X.1 X.2.1 dX8_cell_10 rfl (lv_at hl 0 rfl) ?_
    refine gf_X8_50 X S (by decide) dX8_cell_11 ?_
    refine lv_iload_n X.1 X.2.1 dX8_cell_14 rfl (lv_at hl 1 rfl) ?_
    obtain ⟨g_3, h⟩ := pz_gd_e h
    obtain ⟨g_4, h⟩ := pz_gd_e h
    refine aa_26 X S (by decide) g_3 (of_decide_eq_true g_4) dX8_cell_15 ?_
    refine lv_astore (lv' := [(4, .ref (cx_b G + ly_loc 5 (p1.toNatClampNeg))), (0, .ref (cx_b G + ly_loc 8 0)), (1, .int p1), (2, .int p2), (3, .int p3)]) X.1 X.2.1 dX8_cell_16 hl (by decide) rfl (fun ls hl => ?_)
    refine lv_aload X.1 X.2.1 dX8_cell_18 (lv_at hl 0 rfl) ?_
    refine gf_X8_181 X S hn (ix_lt g_3) dX8_cell_20 ?_
    refine lv_iconst (v := -1) X.1 X.2.1 dX8_cell_23 (by decide) ?_
    refine lv_icmp_ne (tgt := 30) X.1 X.2.1 dX8_cell_24 (by decide) (fun c_5 => ?_) (fun c_5 => ?_)
    · have h := pz_f c_5 h
      refine lv_aload X.1 X.2.1 dX8_cell_30 (lv_at hl 0 rfl) ?_
      refine lv_iload_n X.1 X.2.1 dX8_cell_32 rfl (lv_at hl 3 rfl) ?_
      refine lv_iconst (v := 1) X.1 X.2.1 dX8_cell_33 (by decide) ?_
      obtain ⟨q_6, eq_6, h⟩ := pz_bd_e h
      refine r_Vi X S (c_X5_holds hn (ix_lt g_3) eq_6) gd_X8_217 ⟨rfl, ny_X5_holds⟩ ⟨rfl, rfl⟩ ⟨Nat.le_of_ble_eq_true rfl, Nat.le_of_ble_eq_true rfl⟩ (r_recv X S (ly_ok_5 (ix_lt g_3) hn) rfl rfl) rfl rfl hl.1 (Nat.le_of_ble_eq_true rfl) dX8_cell_34 (fun H locs S => ?_)
      refine lv_if_ne (tgt := 43) X.1 X.2.1 dX8_cell_37 (by decide) (fun c_7 => ?_) (fun c_7 => ?_)
      · have h := pz_f c_7 h
        refine lv_aload X.1 X.2.1 dX8_cell_43 (lv_at hl 0 rfl) ?_
        refine lv_iload_n X.1 X.2.1 dX8_cell_45 rfl (lv_at hl 3 rfl) ?_
        refine lv_iload_n X.1 X.2.1 dX8_cell_46 rfl (lv_at hl 4 rfl) ?_
        obtain ⟨q_8, eq_8, h⟩ := pz_bd_e h
        refine r_Vv X S (c_X5_put hn (ix_lt g_3) eq_8) gd_X8_220 ⟨rfl, ny_X5_put⟩ ⟨rfl, rfl⟩ ⟨Nat.le_of_ble_eq_true rfl, Nat.le_of_ble_eq_true rfl⟩ (r_recv X S (ly_ok_5 (ix_lt g_3) hn) rfl rfl) rfl rfl hl.1 (Nat.le_of_ble_eq_true rfl) dX8_cell_47 (fun H locs S => ?_)
        refine lv_iconst (v := 1) X.1 X.2.1 dX8_cell_50 (by decide) ?_
        cases h
        exact r_iret X S dX8_cell_51
      have h := pz_t c_7 h
      refine lv_bipush (v := -12) X.1 X.2.1 dX8_cell_40 (by decide) ?_
      cases h
      exact r_iret X S dX8_cell_42
    have h := pz_t c_5 h
    refine lv_bipush (v := -11) X.1 X.2.1 dX8_cell_27 (by decide) ?_
    cases h
    exact r_iret X S dX8_cell_29
  have h := pz_t c_2 h
  refine lv_bipush (v := -2) X.1 X.2.1 dX8_cell_7 (by decide) ?_
  cases h
  exact r_iret X S dX8_cell_9
def f_X8_copy (N n : Nat) (I : mm_T) (p1 : Int32) (p2 : Int32) (p3 : Int32) (p4 : Int32) (p5 : Int32) : Option (mm_T × Int32) := pz_bd (f_X8_isSheet N p1) fun q_1 => if q_1 = 0 then (some (I, (-2 : Int32))) else (pz_bd (f_X8_isSheet N p3) fun q_3 => if q_3 = 0 then (some (I, (-2 : Int32))) else (pz_gd (ix_in p1 4) <| pz_gd (decide (¬ (I 26 0 p1.toNatClampNeg) = -1)) <| pz_gd (ix_in p3 4) <| pz_gd (decide (¬ (I 26 0 p3.toNatClampNeg) = -1)) <| if (I 5 (p1.toNatClampNeg) 1) = (-1 : Int32) then (some (I, (-11 : Int32))) else (if (I 5 (p3.toNatClampNeg) 1) = (-1 : Int32) then (some (I, (-11 : Int32))) else (if (I 5 (p1.toNatClampNeg) 1) = (I 5 (p3.toNatClampNeg) 1) then (pz_bd (f_X5_holds N n I (p1.toNatClampNeg) p2 p5) fun q_12 => if q_12 = 0 then (some (I, (-12 : Int32))) else (pz_bd (f_X5_holds N n I (p3.toNatClampNeg) p4 p5) fun q_14 => if q_14 = 0 then (some (I, (-12 : Int32))) else (pz_gd (pz_cp p2 p4 p5 40 40) <| pz_lt (mm_row I 27 (p3.toNatClampNeg) (va_cpy (I 27 (p1.toNatClampNeg)) (I 27 (p3.toNatClampNeg)) p2.toNatClampNeg p4.toNatClampNeg p5.toNatClampNeg)) fun I_17 => some (I_17, p5)))) else (some (I, (-13 : Int32)))))))
set_option maxRecDepth 100000 in
set_option maxHeartbeats 4000000 in
theorem c_X8_copy {l : Launch} {G : cx_T} {N n : Nat} {I J : mm_T} {p1 : Int32} {p2 : Int32} {p3 : Int32} {p4 : Int32} {p5 : Int32} (hn : 144 ≤ n) {z : mm_T × Int32} (h : f_X8_copy N n I p1 p2 p3 p4 p5 = some z) : ct_m l G n yX8_copy cX8_copy 8 (some .int) ({ frames := 1, cells := 0, slots := 0, locals := 60 }) [.ref (cx_b G + ly_loc 8 0), .int p1, .int p2, .int p3, .int p4, .int p5] I J (ct_qi G n z.1 J z.2) := by
  refine ct_en (by decide) (Nat.le_of_ble_eq_true rfl) ?_
  intro p e s m args below meth c ls X S hl
  have X : cx_ok G p s m args meth c cX8_copy 8 RX8 (some .int) := X
  have hl : lv_has ls 8 [(0, .ref (cx_b G + ly_loc 8 0)), (1, .int p1), (2, .int p2), (3, .int p3), (4, .int p4), (5, .int p5)] := hl
  unfold f_X8_copy at h
  refine lv_iload_n X.1 X.2.1 dX8_copy_0 rfl (lv_at hl 1 rfl) ?_
  obtain ⟨q_1, eq_1, h⟩ := pz_bd_e h
  refine r_Si X S (c_X8_isSheet eq_1) gd_X8_178 ny_X8_isSheet ⟨rfl, rfl⟩ ⟨Nat.le_of_ble_eq_true rfl, Nat.le_of_ble_eq_true rfl⟩ rfl rfl hl.1 (Nat.le_of_ble_eq_true rfl) dX8_copy_1 (fun H locs S => ?_)
  refine lv_if_eq (tgt := 14) X.1 X.2.1 dX8_copy_4 (by decide) (fun c_2 => ?_) (fun c_2 => ?_)
  · have h := pz_t c_2 h
    refine lv_bipush (v := -2) X.1 X.2.1 dX8_copy_14 (by decide) ?_
    cases h
    exact r_iret X S dX8_copy_16
  have h := pz_f c_2 h
  refine lv_iload_n X.1 X.2.1 dX8_copy_7 rfl (lv_at hl 3 rfl) ?_
  obtain ⟨q_3, eq_3, h⟩ := pz_bd_e h
  refine r_Si X S (c_X8_isSheet eq_3) gd_X8_178 ny_X8_isSheet ⟨rfl, rfl⟩ ⟨Nat.le_of_ble_eq_true rfl, Nat.le_of_ble_eq_true rfl⟩ rfl rfl hl.1 (Nat.le_of_ble_eq_true rfl) dX8_copy_8 (fun H locs S => ?_)
  refine lv_if_ne (tgt := 17) X.1 X.2.1 dX8_copy_11 (by decide) (fun c_4 => ?_) (fun c_4 => ?_)
  · have h := pz_f c_4 h
    refine lv_aload_n X.1 X.2.1 dX8_copy_17 rfl (lv_at hl 0 rfl) ?_
    refine gf_X8_50 X S (by decide) dX8_copy_18 ?_
    refine lv_iload_n X.1 X.2.1 dX8_copy_21 rfl (lv_at hl 1 rfl) ?_
    obtain ⟨g_5, h⟩ := pz_gd_e h
    obtain ⟨g_6, h⟩ := pz_gd_e h
    refine aa_26 X S (by decide) g_5 (of_decide_eq_true g_6) dX8_copy_22 ?_
    refine lv_astore (lv' := [(6, .ref (cx_b G + ly_loc 5 (p1.toNatClampNeg))), (0, .ref (cx_b G + ly_loc 8 0)), (1, .int p1), (2, .int p2), (3, .int p3), (4, .int p4), (5, .int p5)]) X.1 X.2.1 dX8_copy_23 hl (by decide) rfl (fun ls hl => ?_)
    refine lv_aload_n X.1 X.2.1 dX8_copy_25 rfl (lv_at hl 1 rfl) ?_
    refine gf_X8_50 X S (by decide) dX8_copy_26 ?_
    refine lv_iload_n X.1 X.2.1 dX8_copy_29 rfl (lv_at hl 4 rfl) ?_
    obtain ⟨g_7, h⟩ := pz_gd_e h
    obtain ⟨g_8, h⟩ := pz_gd_e h
    refine aa_26 X S (by decide) g_7 (of_decide_eq_true g_8) dX8_copy_30 ?_
    refine lv_astore (lv' := [(7, .ref (cx_b G + ly_loc 5 (p3.toNatClampNeg))), (6, .ref (cx_b G + ly_loc 5 (p1.toNatClampNeg))), (0, .ref (cx_b G + ly_loc 8 0)), (1, .int p1), (2, .int p2), (3, .int p3), (4, .int p4), (5, .int p5)]) X.1 X.2.1 dX8_copy_31 hl (by decide) rfl (fun ls hl => ?_)
    refine lv_aload X.1 X.2.1 dX8_copy_33 (lv_at hl 1 rfl) ?_
    refine gf_X8_181 X S hn (ix_lt g_5) dX8_copy_35 ?_
    refine lv_iconst (v := -1) X.1 X.2.1 dX8_copy_38 (by decide) ?_
    refine lv_icmp_eq (tgt := 51) X.1 X.2.1 dX8_copy_39 (by decide) (fun c_9 => ?_) (fun c_9 => ?_)
    · have h := pz_t c_9 h
      refine lv_bipush (v := -11) X.1 X.2.1 dX8_copy_51 (by decide) ?_
      cases h
      exact r_iret X S dX8_copy_53
    have h := pz_f c_9 h
    refine lv_aload X.1 X.2.1 dX8_copy_42 (lv_at hl 0 rfl) ?_
    refine gf_X8_181 X S hn (ix_lt g_7) dX8_copy_44 ?_
    refine lv_iconst (v := -1) X.1 X.2.1 dX8_copy_47 (by decide) ?_
    refine lv_icmp_ne (tgt := 54) X.1 X.2.1 dX8_copy_48 (by decide) (fun c_10 => ?_) (fun c_10 => ?_)
    · have h := pz_f c_10 h
      refine lv_aload X.1 X.2.1 dX8_copy_54 (lv_at hl 1 rfl) ?_
      refine gf_X8_181 X S hn (ix_lt g_5) dX8_copy_56 ?_
      refine lv_aload X.1 X.2.1 dX8_copy_59 (lv_at hl 0 rfl) ?_
      refine gf_X8_181 X S hn (ix_lt g_7) dX8_copy_61 ?_
      refine lv_icmp_eq (tgt := 70) X.1 X.2.1 dX8_copy_64 (by decide) (fun c_11 => ?_) (fun c_11 => ?_)
      · have h := pz_t c_11 h
        refine lv_aload X.1 X.2.1 dX8_copy_70 (lv_at hl 1 rfl) ?_
        refine lv_iload_n X.1 X.2.1 dX8_copy_72 rfl (lv_at hl 4 rfl) ?_
        refine lv_iload X.1 X.2.1 dX8_copy_73 (lv_at hl 7 rfl) ?_
        obtain ⟨q_12, eq_12, h⟩ := pz_bd_e h
        refine r_Vi X S (c_X5_holds hn (ix_lt g_5) eq_12) gd_X8_217 ⟨rfl, ny_X5_holds⟩ ⟨rfl, rfl⟩ ⟨Nat.le_of_ble_eq_true rfl, Nat.le_of_ble_eq_true rfl⟩ (r_recv X S (ly_ok_5 (ix_lt g_5) hn) rfl rfl) rfl rfl hl.1 (Nat.le_of_ble_eq_true rfl) dX8_copy_75 (fun H locs S => ?_)
        refine lv_if_eq (tgt := 93) X.1 X.2.1 dX8_copy_78 (by decide) (fun c_13 => ?_) (fun c_13 => ?_)
        · have h := pz_t c_13 h
          refine lv_bipush (v := -12) X.1 X.2.1 dX8_copy_93 (by decide) ?_
          cases h
          exact r_iret X S dX8_copy_95
        have h := pz_f c_13 h
        refine lv_aload X.1 X.2.1 dX8_copy_81 (lv_at hl 0 rfl) ?_
        refine lv_iload X.1 X.2.1 dX8_copy_83 (lv_at hl 6 rfl) ?_
        refine lv_iload X.1 X.2.1 dX8_copy_85 (lv_at hl 7 rfl) ?_
        obtain ⟨q_14, eq_14, h⟩ := pz_bd_e h
        refine r_Vi X S (c_X5_holds hn (ix_lt g_7) eq_14) gd_X8_217 ⟨rfl, ny_X5_holds⟩ ⟨rfl, rfl⟩ ⟨Nat.le_of_ble_eq_true rfl, Nat.le_of_ble_eq_true rfl⟩ (r_recv X S (ly_ok_5 (ix_lt g_7) hn) rfl rfl) rfl rfl hl.1 (Nat.le_of_ble_eq_true rfl) dX8_copy_87 (fun H locs S => ?_)
        refine lv_if_ne (tgt := 96) X.1 X.2.1 dX8_copy_90 (by decide) (fun c_15 => ?_) (fun c_15 => ?_)
        · have h := pz_f c_15 h
          refine lv_aload X.1 X.2.1 dX8_copy_96 (lv_at hl 1 rfl) ?_
          refine gf_X8_223 X S hn (ix_lt g_5) dX8_copy_98 ?_
          refine lv_iload_n X.1 X.2.1 dX8_copy_101 rfl (lv_at hl 4 rfl) ?_
          refine lv_aload X.1 X.2.1 dX8_copy_102 (lv_at hl 0 rfl) ?_
          refine gf_X8_223 X S hn (ix_lt g_7) dX8_copy_104 ?_
          refine lv_iload X.1 X.2.1 dX8_copy_107 (lv_at hl 6 rfl) ?_
          refine lv_iload X.1 X.2.1 dX8_copy_109 (lv_at hl 7 rfl) ?_
          obtain ⟨g_16, h⟩ := pz_gd_e h
          refine r_copy X S (ly_ok_27 (ix_lt g_5) hn) (ly_ok_27 (ix_lt g_7) hn) rfl rfl (fun _ => rfl) (fun _ => rfl) hl.1 mc_X8_226 g_16 (Nat.le_of_ble_eq_true rfl) (Nat.le_of_ble_eq_true rfl) dX8_copy_111 (fun I_17 H locs eI_17 S => ?_)
          have h := pz_lt_e h eI_17
          refine lv_iload X.1 X.2.1 dX8_copy_114 (lv_at hl 7 rfl) ?_
          cases h
          exact r_iret X S dX8_copy_116
        have h := pz_t c_15 h
        refine lv_bipush (v := -12) X.1 X.2.1 dX8_copy_93 (by decide) ?_
        cases h
        exact r_iret X S dX8_copy_95
      have h := pz_f c_11 h
      refine lv_bipush (v := -13) X.1 X.2.1 dX8_copy_67 (by decide) ?_
      cases h
      exact r_iret X S dX8_copy_69
    have h := pz_t c_10 h
    refine lv_bipush (v := -11) X.1 X.2.1 dX8_copy_51 (by decide) ?_
    cases h
    exact r_iret X S dX8_copy_53
  have h := pz_t c_4 h
  refine lv_bipush (v := -2) X.1 X.2.1 dX8_copy_14 (by decide) ?_
  cases h
  exact r_iret X S dX8_copy_16
def f_X8_slips_L148 (N n : Nat) (p1 : Int32) (p2 : Int32) (p3 : Int32) (p4 : Int32) (k78 : mm_T → Int32 → Int32 → Nat → Int32 → Int32 → Option (mm_T × Int32)) (I : mm_T) (a3 : Int32) (a4 : Int32) (a5 : Nat) (a6 : Int32) (a7 : Int32) : Option (mm_T × Int32) := pz_lt (a7 + (1 : Int32)) fun x_22 => k78 I a3 a4 a5 a6 x_22
set_option maxRecDepth 100000 in
set_option maxHeartbeats 4000000 in
theorem w_X8_slips_L148 {l : Launch} {G : cx_T} {p : Program} {e : Env} {s : State} {m : MethodId} {args : Array Value} {below : List Frame} {meth : Method} {c : Code} {N n : Nat} {J : mm_T} {p1 : Int32} {p2 : Int32} {p3 : Int32} {p4 : Int32} (X : cx_ok G p s m args meth c cX8_slips 9 RX8 (some .int)) (hn : 144 ≤ n) {k78 : mm_T → Int32 → Int32 → Nat → Int32 → Int32 → Option (mm_T × Int32)} {z : mm_T × Int32} (K78 : ∀ {I : mm_T} {a3 : Int32} {a4 : Int32} {a5 : Nat} {a6 : Int32} {a7 : Int32} {H : Heap} {locs : List Loc} {ls : Array Slot}, k78 I a3 a4 a5 a6 a7 = some z → (ha5 : a5 < 4) → st_ok G n I J s H locs → lv_has ls 9 [(0, .ref (cx_b G + ly_loc 8 0)), (3, .int a3), (4, .int a4), (5, .ref (cx_b G + ly_loc 5 a5)), (6, .int a6), (7, .int a7)] → W p l e ({ frames := 2, cells := 0, slots := 0, locals := 45 }) s m args below meth c H locs 0 0 (MQ below (ct_qi G n z.1 J z.2) args s 0 0 (cx_A G)) (F0 m 78 ls [])) {I : mm_T} {a3 : Int32} {a4 : Int32} {a5 : Nat} {a6 : Int32} {a7 : Int32} {H : Heap} {locs : List Loc} {ls : Array Slot} (h : f_X8_slips_L148 N n p1 p2 p3 p4 k78 I a3 a4 a5 a6 a7 = some z) (ha5 : a5 < 4) (S : st_ok G n I J s H locs) (hl : lv_has ls 9 [(0, .ref (cx_b G + ly_loc 8 0)), (3, .int a3), (4, .int a4), (5, .ref (cx_b G + ly_loc 5 a5)), (6, .int a6), (7, .int a7)]) : W p l e ({ frames := 2, cells := 0, slots := 0, locals := 45 }) s m args below meth c H locs 0 0 (MQ below (ct_qi G n z.1 J z.2) args s 0 0 (cx_A G)) (F0 m 148 ls []) := by
  unfold f_X8_slips_L148 at h
  obtain ⟨x_22, ex_22⟩ : ∃ y : Int32, y = (a7 + (1 : Int32)) := ⟨_, rfl⟩
  have h := pz_lt_e h ex_22
  refine lv_iinc (v := x_22) (lv' := [(7, .int x_22), (0, .ref (cx_b G + ly_loc 8 0)), (3, .int a3), (4, .int a4), (5, .ref (cx_b G + ly_loc 5 a5)), (6, .int a6)]) X.1 X.2.1 dX8_slips_148 hl (k := 5) rfl (by rw [ex_22]; rfl) (by decide) rfl (fun ls hl => ?_)
  refine lv_goto (tgt := 78) X.1 X.2.1 dX8_slips_151 (by decide) ?_
  exact K78 h ha5 S (lv_sub hl [1, 2, 3, 4, 5, 0] rfl)
def f_X8_slips_L78 (N n : Nat) (p1 : Int32) (p2 : Int32) (p3 : Int32) (p4 : Int32) : Nat → mm_T → Int32 → Int32 → Nat → Int32 → Int32 → Option (mm_T × Int32)
  | 0, _, _, _, _, _, _ => none
  | cnt + 1, I, a3, a4, a5, a6, a7 => if a4 ≤ a7 then (some (I, a6)) else (pz_lt (a3 + ((3 : Int32) * a7)) fun x_13 => pz_bd (f_X5_holds N n I a5 x_13 (3 : Int32)) fun q_14 => if q_14 = 0 then (some (I, (-12 : Int32))) else (pz_gd (ix_in x_13 40) <| pz_gd (ix_in (x_13 + (1 : Int32)) 40) <| pz_gd (ix_in (x_13 + (2 : Int32)) 40) <| pz_bd (f_X1_addSlip N n I 0 (I 27 a5 x_13.toNatClampNeg) (I 27 a5 (x_13 + (1 : Int32)).toNatClampNeg) (I 27 a5 (x_13 + (2 : Int32)).toNatClampNeg)) fun q_19 => if q_19.2 < 0 then (f_X8_slips_L148 N n p1 p2 p3 p4 (f_X8_slips_L78 N n p1 p2 p3 p4 cnt) q_19.1 a3 a4 a5 a6 a7) else (pz_lt (a6 + (1 : Int32)) fun x_21 => f_X8_slips_L148 N n p1 p2 p3 p4 (f_X8_slips_L78 N n p1 p2 p3 p4 cnt) q_19.1 a3 a4 a5 x_21 a7)))
set_option maxRecDepth 100000 in
set_option maxHeartbeats 4000000 in
theorem w_X8_slips_L78 {l : Launch} {G : cx_T} {p : Program} {e : Env} {s : State} {m : MethodId} {args : Array Value} {below : List Frame} {meth : Method} {c : Code} {N n : Nat} {J : mm_T} {p1 : Int32} {p2 : Int32} {p3 : Int32} {p4 : Int32} (X : cx_ok G p s m args meth c cX8_slips 9 RX8 (some .int)) (hn : 144 ≤ n) {z : mm_T × Int32} : ∀ (cnt : Nat) {I : mm_T} {a3 : Int32} {a4 : Int32} {a5 : Nat} {a6 : Int32} {a7 : Int32} {H : Heap} {locs : List Loc} {ls : Array Slot} , f_X8_slips_L78 N n p1 p2 p3 p4 cnt I a3 a4 a5 a6 a7 = some z → (ha5 : a5 < 4) → st_ok G n I J s H locs → lv_has ls 9 [(0, .ref (cx_b G + ly_loc 8 0)), (3, .int a3), (4, .int a4), (5, .ref (cx_b G + ly_loc 5 a5)), (6, .int a6), (7, .int a7)] → W p l e ({ frames := 2, cells := 0, slots := 0, locals := 45 }) s m args below meth c H locs 0 0 (MQ below (ct_qi G n z.1 J z.2) args s 0 0 (cx_A G)) (F0 m 78 ls []) := by
  intro cnt
  induction cnt with
  | zero =>
    intro I a3 a4 a5 a6 a7 H locs ls h
    rw [f_X8_slips_L78] at h
    cases h
  | succ cnt ih =>
    intro I a3 a4 a5 a6 a7 H locs ls h ha5 S hl
    rw [f_X8_slips_L78] at h
    refine lv_iload X.1 X.2.1 dX8_slips_78 (lv_at hl 5 rfl) ?_
    refine lv_iload X.1 X.2.1 dX8_slips_80 (lv_at hl 2 rfl) ?_
    refine lv_icmp_ge (tgt := 154) X.1 X.2.1 dX8_slips_82 (by decide) (fun c_12 => ?_) (fun c_12 => ?_)
    · have h := pz_t c_12 h
      refine lv_iload X.1 X.2.1 dX8_slips_154 (lv_at hl 4 rfl) ?_
      cases h
      exact r_iret X S dX8_slips_156
    have h := pz_f c_12 h
    refine lv_iload_n X.1 X.2.1 dX8_slips_85 rfl (lv_at hl 1 rfl) ?_
    refine lv_iconst (v := 3) X.1 X.2.1 dX8_slips_86 (by decide) ?_
    refine lv_iload X.1 X.2.1 dX8_slips_87 (lv_at hl 5 rfl) ?_
    refine lv_imul X.1 X.2.1 dX8_slips_89 ?_
    refine lv_iadd X.1 X.2.1 dX8_slips_90 ?_
    refine lv_topi (fun x_13 ex_13 => ?_)
    have h := pz_lt_e h ex_13
    refine lv_istore (lv' := [(8, .int x_13), (0, .ref (cx_b G + ly_loc 8 0)), (3, .int a3), (4, .int a4), (5, .ref (cx_b G + ly_loc 5 a5)), (6, .int a6), (7, .int a7)]) X.1 X.2.1 dX8_slips_91 hl (by decide) rfl (fun ls hl => ?_)
    refine lv_aload X.1 X.2.1 dX8_slips_93 (lv_at hl 4 rfl) ?_
    refine lv_iload X.1 X.2.1 dX8_slips_95 (lv_at hl 0 rfl) ?_
    refine lv_iconst (v := 3) X.1 X.2.1 dX8_slips_97 (by decide) ?_
    obtain ⟨q_14, eq_14, h⟩ := pz_bd_e h
    refine r_Vi X S (c_X5_holds hn ha5 eq_14) gd_X8_217 ⟨rfl, ny_X5_holds⟩ ⟨rfl, rfl⟩ ⟨Nat.le_of_ble_eq_true rfl, Nat.le_of_ble_eq_true rfl⟩ (r_recv X S (ly_ok_5 ha5 hn) rfl rfl) rfl rfl hl.1 (Nat.le_of_ble_eq_true rfl) dX8_slips_98 (fun H locs S => ?_)
    refine lv_if_ne (tgt := 107) X.1 X.2.1 dX8_slips_101 (by decide) (fun c_15 => ?_) (fun c_15 => ?_)
    · have h := pz_f c_15 h
      refine lv_aload_n X.1 X.2.1 dX8_slips_107 rfl (lv_at hl 1 rfl) ?_
      refine gf_X8_10 X S (by decide) dX8_slips_108 ?_
      refine lv_aload X.1 X.2.1 dX8_slips_111 (lv_at hl 4 rfl) ?_
      refine gf_X8_223 X S hn ha5 dX8_slips_113 ?_
      refine lv_iload X.1 X.2.1 dX8_slips_116 (lv_at hl 0 rfl) ?_
      obtain ⟨g_16, h⟩ := pz_gd_e h
      refine al_27 X S hn ha5 g_16 dX8_slips_118 ?_
      refine lv_aload X.1 X.2.1 dX8_slips_119 (lv_at hl 4 rfl) ?_
      refine gf_X8_223 X S hn ha5 dX8_slips_121 ?_
      refine lv_iload X.1 X.2.1 dX8_slips_124 (lv_at hl 0 rfl) ?_
      refine lv_iconst (v := 1) X.1 X.2.1 dX8_slips_126 (by decide) ?_
      refine lv_iadd X.1 X.2.1 dX8_slips_127 ?_
      obtain ⟨g_17, h⟩ := pz_gd_e h
      refine al_27 X S hn ha5 g_17 dX8_slips_128 ?_
      refine lv_aload X.1 X.2.1 dX8_slips_129 (lv_at hl 4 rfl) ?_
      refine gf_X8_223 X S hn ha5 dX8_slips_131 ?_
      refine lv_iload X.1 X.2.1 dX8_slips_134 (lv_at hl 0 rfl) ?_
      refine lv_iconst (v := 2) X.1 X.2.1 dX8_slips_136 (by decide) ?_
      refine lv_iadd X.1 X.2.1 dX8_slips_137 ?_
      obtain ⟨g_18, h⟩ := pz_gd_e h
      refine al_27 X S hn ha5 g_18 dX8_slips_138 ?_
      obtain ⟨q_19, eq_19, h⟩ := pz_bd_e h
      refine r_Vi X S (c_X1_addSlip hn (by decide) eq_19) gd_X8_91 ⟨rfl, ny_X1_addSlip⟩ ⟨rfl, rfl⟩ ⟨Nat.le_of_ble_eq_true rfl, Nat.le_of_ble_eq_true rfl⟩ (r_recv X S (ly_ok_1 (by decide) S.2.2.2) rfl rfl) rfl rfl hl.1 (Nat.le_of_ble_eq_true rfl) dX8_slips_139 (fun H locs S => ?_)
      refine lv_if_lt (tgt := 148) X.1 X.2.1 dX8_slips_142 (by decide) (fun c_20 => ?_) (fun c_20 => ?_)
      · have h := pz_t c_20 h
        exact w_X8_slips_L148 X hn ih h ha5 S (lv_sub hl [1, 2, 3, 4, 5, 6] rfl)
      have h := pz_f c_20 h
      obtain ⟨x_21, ex_21⟩ : ∃ y : Int32, y = (a6 + (1 : Int32)) := ⟨_, rfl⟩
      have h := pz_lt_e h ex_21
      refine lv_iinc (v := x_21) (lv' := [(6, .int x_21), (8, .int x_13), (0, .ref (cx_b G + ly_loc 8 0)), (3, .int a3), (4, .int a4), (5, .ref (cx_b G + ly_loc 5 a5)), (7, .int a7)]) X.1 X.2.1 dX8_slips_145 hl (k := 5) rfl (by rw [ex_21]; rfl) (by decide) rfl (fun ls hl => ?_)
      exact w_X8_slips_L148 X hn ih h ha5 S (lv_sub hl [2, 3, 4, 5, 0, 6] rfl)
    have h := pz_t c_15 h
    refine lv_bipush (v := -12) X.1 X.2.1 dX8_slips_104 (by decide) ?_
    cases h
    exact r_iret X S dX8_slips_106
def f_X8_slips_L60 (N n : Nat) (p1 : Int32) (p2 : Int32) (p3 : Int32) (p4 : Int32) (I : mm_T) (a3 : Int32) (a4 : Int32) (a5 : Nat) : Option (mm_T × Int32) := if (I 5 a5 1) = (-1 : Int32) then (some (I, (-11 : Int32))) else (f_X8_slips_L78 N n p1 p2 p3 p4 N I a3 a4 a5 (0 : Int32) (0 : Int32))
set_option maxRecDepth 100000 in
set_option maxHeartbeats 4000000 in
theorem w_X8_slips_L60 {l : Launch} {G : cx_T} {p : Program} {e : Env} {s : State} {m : MethodId} {args : Array Value} {below : List Frame} {meth : Method} {c : Code} {N n : Nat} {J : mm_T} {p1 : Int32} {p2 : Int32} {p3 : Int32} {p4 : Int32} (X : cx_ok G p s m args meth c cX8_slips 9 RX8 (some .int)) (hn : 144 ≤ n) {z : mm_T × Int32} {I : mm_T} {a3 : Int32} {a4 : Int32} {a5 : Nat} {H : Heap} {locs : List Loc} {ls : Array Slot} (h : f_X8_slips_L60 N n p1 p2 p3 p4 I a3 a4 a5 = some z) (ha5 : a5 < 4) (S : st_ok G n I J s H locs) (hl : lv_has ls 9 [(0, .ref (cx_b G + ly_loc 8 0)), (3, .int a3), (4, .int a4), (5, .ref (cx_b G + ly_loc 5 a5))]) : W p l e ({ frames := 2, cells := 0, slots := 0, locals := 45 }) s m args below meth c H locs 0 0 (MQ below (ct_qi G n z.1 J z.2) args s 0 0 (cx_A G)) (F0 m 60 ls []) := by
  unfold f_X8_slips_L60 at h
  refine lv_aload X.1 X.2.1 dX8_slips_60 (lv_at hl 3 rfl) ?_
  refine gf_X8_181 X S hn ha5 dX8_slips_62 ?_
  refine lv_iconst (v := -1) X.1 X.2.1 dX8_slips_65 (by decide) ?_
  refine lv_icmp_ne (tgt := 72) X.1 X.2.1 dX8_slips_66 (by decide) (fun c_11 => ?_) (fun c_11 => ?_)
  · have h := pz_f c_11 h
    refine lv_iconst (v := 0) X.1 X.2.1 dX8_slips_72 (by decide) ?_
    refine lv_istore (lv' := [(6, .int (0 : Int32)), (0, .ref (cx_b G + ly_loc 8 0)), (3, .int a3), (4, .int a4), (5, .ref (cx_b G + ly_loc 5 a5))]) X.1 X.2.1 dX8_slips_73 hl (by decide) rfl (fun ls hl => ?_)
    refine lv_iconst (v := 0) X.1 X.2.1 dX8_slips_75 (by decide) ?_
    refine lv_istore (lv' := [(7, .int (0 : Int32)), (6, .int (0 : Int32)), (0, .ref (cx_b G + ly_loc 8 0)), (3, .int a3), (4, .int a4), (5, .ref (cx_b G + ly_loc 5 a5))]) X.1 X.2.1 dX8_slips_76 hl (by decide) rfl (fun ls hl => ?_)
    exact w_X8_slips_L78 X hn N h ha5 S (lv_sub hl [2, 3, 4, 5, 1, 0] rfl)
  have h := pz_t c_11 h
  refine lv_bipush (v := -11) X.1 X.2.1 dX8_slips_69 (by decide) ?_
  cases h
  exact r_iret X S dX8_slips_71
def f_X8_slips (N n : Nat) (I : mm_T) (p1 : Int32) (p2 : Int32) (p3 : Int32) (p4 : Int32) : Option (mm_T × Int32) := pz_bd (f_X8_isSheet N p1) fun q_1 => if q_1 = 0 then (some (I, (-2 : Int32))) else (if p2 < 0 then (some (I, (-2 : Int32))) else (if (2 : Int32) < p2 then (some (I, (-2 : Int32))) else (if p4 < 0 then (some (I, (-2 : Int32))) else (if p4 ≤ (7 : Int32) then (pz_gd (ix_in p1 4) <| pz_gd (decide (¬ (I 26 0 p1.toNatClampNeg) = -1)) <| if (I 5 (p1.toNatClampNeg) 1) = (-1 : Int32) then (f_X8_slips_L60 N n p1 p2 p3 p4 I p3 p4 (p1.toNatClampNeg)) else (if (I 5 (p1.toNatClampNeg) 1) = p2 then (f_X8_slips_L60 N n p1 p2 p3 p4 I p3 p4 (p1.toNatClampNeg)) else (some (I, (-13 : Int32))))) else (some (I, (-2 : Int32)))))))
set_option maxRecDepth 100000 in
set_option maxHeartbeats 4000000 in
theorem c_X8_slips {l : Launch} {G : cx_T} {N n : Nat} {I J : mm_T} {p1 : Int32} {p2 : Int32} {p3 : Int32} {p4 : Int32} (hn : 144 ≤ n) {z : mm_T × Int32} (h : f_X8_slips N n I p1 p2 p3 p4 = some z) : ct_m l G n yX8_slips cX8_slips 9 (some .int) ({ frames := 2, cells := 0, slots := 0, locals := 45 }) [.ref (cx_b G + ly_loc 8 0), .int p1, .int p2, .int p3, .int p4] I J (ct_qi G n z.1 J z.2) := by
  refine ct_en (by decide) (Nat.le_of_ble_eq_true rfl) ?_
  intro p e s m args below meth c ls X S hl
  have X : cx_ok G p s m args meth c cX8_slips 9 RX8 (some .int) := X
  have hl : lv_has ls 9 [(0, .ref (cx_b G + ly_loc 8 0)), (1, .int p1), (2, .int p2), (3, .int p3), (4, .int p4)] := hl
  unfold f_X8_slips at h
  refine lv_iload_n X.1 X.2.1 dX8_slips_0 rfl (lv_at hl 1 rfl) ?_
  obtain ⟨q_1, eq_1, h⟩ := pz_bd_e h
  refine r_Si X S (c_X8_isSheet eq_1) gd_X8_178 ny_X8_isSheet ⟨rfl, rfl⟩ ⟨Nat.le_of_ble_eq_true rfl, Nat.le_of_ble_eq_true rfl⟩ rfl rfl hl.1 (Nat.le_of_ble_eq_true rfl) dX8_slips_1 (fun H locs S => ?_)
  refine lv_if_eq (tgt := 28) X.1 X.2.1 dX8_slips_4 (by decide) (fun c_2 => ?_) (fun c_2 => ?_)
  · have h := pz_t c_2 h
    refine lv_bipush (v := -2) X.1 X.2.1 dX8_slips_28 (by decide) ?_
    cases h
    exact r_iret X S dX8_slips_30
  have h := pz_f c_2 h
  refine lv_iload_n X.1 X.2.1 dX8_slips_7 rfl (lv_at hl 2 rfl) ?_
  refine lv_if_lt (tgt := 28) X.1 X.2.1 dX8_slips_8 (by decide) (fun c_3 => ?_) (fun c_3 => ?_)
  · have h := pz_t c_3 h
    refine lv_bipush (v := -2) X.1 X.2.1 dX8_slips_28 (by decide) ?_
    cases h
    exact r_iret X S dX8_slips_30
  have h := pz_f c_3 h
  refine lv_iload_n X.1 X.2.1 dX8_slips_11 rfl (lv_at hl 2 rfl) ?_
  refine lv_iconst (v := 2) X.1 X.2.1 dX8_slips_12 (by decide) ?_
  refine lv_icmp_gt (tgt := 28) X.1 X.2.1 dX8_slips_13 (by decide) (fun c_4 => ?_) (fun c_4 => ?_)
  · have h := pz_t c_4 h
    refine lv_bipush (v := -2) X.1 X.2.1 dX8_slips_28 (by decide) ?_
    cases h
    exact r_iret X S dX8_slips_30
  have h := pz_f c_4 h
  refine lv_iload X.1 X.2.1 dX8_slips_16 (lv_at hl 4 rfl) ?_
  refine lv_if_lt (tgt := 28) X.1 X.2.1 dX8_slips_18 (by decide) (fun c_5 => ?_) (fun c_5 => ?_)
  · have h := pz_t c_5 h
    refine lv_bipush (v := -2) X.1 X.2.1 dX8_slips_28 (by decide) ?_
    cases h
    exact r_iret X S dX8_slips_30
  have h := pz_f c_5 h
  refine lv_iload X.1 X.2.1 dX8_slips_21 (lv_at hl 4 rfl) ?_
  refine lv_bipush (v := 7) X.1 X.2.1 dX8_slips_23 (by decide) ?_
  refine lv_icmp_le (tgt := 31) X.1 X.2.1 dX8_slips_25 (by decide) (fun c_6 => ?_) (fun c_6 => ?_)
  · have h := pz_t c_6 h
    refine lv_aload_n X.1 X.2.1 dX8_slips_31 rfl (lv_at hl 0 rfl) ?_
    refine gf_X8_50 X S (by decide) dX8_slips_32 ?_
    refine lv_iload_n X.1 X.2.1 dX8_slips_35 rfl (lv_at hl 1 rfl) ?_
    obtain ⟨g_7, h⟩ := pz_gd_e h
    obtain ⟨g_8, h⟩ := pz_gd_e h
    refine aa_26 X S (by decide) g_7 (of_decide_eq_true g_8) dX8_slips_36 ?_
    refine lv_astore (lv' := [(5, .ref (cx_b G + ly_loc 5 (p1.toNatClampNeg))), (0, .ref (cx_b G + ly_loc 8 0)), (1, .int p1), (2, .int p2), (3, .int p3), (4, .int p4)]) X.1 X.2.1 dX8_slips_37 hl (by decide) rfl (fun ls hl => ?_)
    refine lv_aload X.1 X.2.1 dX8_slips_39 (lv_at hl 0 rfl) ?_
    refine gf_X8_181 X S hn (ix_lt g_7) dX8_slips_41 ?_
    refine lv_iconst (v := -1) X.1 X.2.1 dX8_slips_44 (by decide) ?_
    refine lv_icmp_eq (tgt := 60) X.1 X.2.1 dX8_slips_45 (by decide) (fun c_9 => ?_) (fun c_9 => ?_)
    · have h := pz_t c_9 h
      exact w_X8_slips_L60 X hn h (ix_lt g_7) S (lv_sub hl [1, 4, 5, 0] rfl)
    have h := pz_f c_9 h
    refine lv_aload X.1 X.2.1 dX8_slips_48 (lv_at hl 0 rfl) ?_
    refine gf_X8_181 X S hn (ix_lt g_7) dX8_slips_50 ?_
    refine lv_iload_n X.1 X.2.1 dX8_slips_53 rfl (lv_at hl 3 rfl) ?_
    refine lv_icmp_eq (tgt := 60) X.1 X.2.1 dX8_slips_54 (by decide) (fun c_10 => ?_) (fun c_10 => ?_)
    · have h := pz_t c_10 h
      exact w_X8_slips_L60 X hn h (ix_lt g_7) S (lv_sub hl [1, 4, 5, 0] rfl)
    have h := pz_f c_10 h
    refine lv_bipush (v := -13) X.1 X.2.1 dX8_slips_57 (by decide) ?_
    cases h
    exact r_iret X S dX8_slips_59
  have h := pz_f c_6 h
  refine lv_bipush (v := -2) X.1 X.2.1 dX8_slips_28 (by decide) ?_
  cases h
  exact r_iret X S dX8_slips_30
def f_X8_taken (N n : Nat) (I : mm_T) (p1 : Int32) (p2 : Int32) : Option (Int32) := if p2 < 0 then (some (-2 : Int32)) else (if p2 ≤ (5 : Int32) then (pz_bd (f_X1_hasSlip N n I 0 p1) fun q_3 => if q_3 = 0 then (some (-11 : Int32)) else (pz_gd (ix_in p1 7) <| pz_bd (f_X6_isOf N n I (7 * 0 + p1.toNatClampNeg) p2) fun q_6 => if q_6 = 0 then (some (-13 : Int32)) else (pz_gd (ix_in p1 7) <| some (I 6 (7 * 0 + p1.toNatClampNeg) 1)))) else (some (-2 : Int32)))
set_option maxRecDepth 100000 in
set_option maxHeartbeats 4000000 in
theorem c_X8_taken {l : Launch} {G : cx_T} {N n : Nat} {I J : mm_T} {p1 : Int32} {p2 : Int32} (hn : 144 ≤ n) {z : Int32} (h : f_X8_taken N n I p1 p2 = some z) : ct_m l G n yX8_taken cX8_taken 3 (some .int) ({ frames := 1, cells := 0, slots := 0, locals := 21 }) [.ref (cx_b G + ly_loc 8 0), .int p1, .int p2] I J (ct_qi G n I J z) := by
  refine ct_en (by decide) (Nat.le_of_ble_eq_true rfl) ?_
  intro p e s m args below meth c ls X S hl
  have X : cx_ok G p s m args meth c cX8_taken 3 RX8 (some .int) := X
  have hl : lv_has ls 3 [(0, .ref (cx_b G + ly_loc 8 0)), (1, .int p1), (2, .int p2)] := hl
  unfold f_X8_taken at h
  refine lv_iload_n X.1 X.2.1 dX8_taken_0 rfl (lv_at hl 2 rfl) ?_
  refine lv_if_lt (tgt := 9) X.1 X.2.1 dX8_taken_1 (by decide) (fun c_1 => ?_) (fun c_1 => ?_)
  · have h := pz_t c_1 h
    refine lv_bipush (v := -2) X.1 X.2.1 dX8_taken_9 (by decide) ?_
    cases h
    exact r_iret X S dX8_taken_11
  have h := pz_f c_1 h
  refine lv_iload_n X.1 X.2.1 dX8_taken_4 rfl (lv_at hl 2 rfl) ?_
  refine lv_iconst (v := 5) X.1 X.2.1 dX8_taken_5 (by decide) ?_
  refine lv_icmp_le (tgt := 12) X.1 X.2.1 dX8_taken_6 (by decide) (fun c_2 => ?_) (fun c_2 => ?_)
  · have h := pz_t c_2 h
    refine lv_aload_n X.1 X.2.1 dX8_taken_12 rfl (lv_at hl 0 rfl) ?_
    refine gf_X8_10 X S (by decide) dX8_taken_13 ?_
    refine lv_iload_n X.1 X.2.1 dX8_taken_16 rfl (lv_at hl 1 rfl) ?_
    obtain ⟨q_3, eq_3, h⟩ := pz_bd_e h
    refine r_Vi X S (c_X1_hasSlip hn (by decide) eq_3) gd_X8_106 ⟨rfl, ny_X1_hasSlip⟩ ⟨rfl, rfl⟩ ⟨Nat.le_of_ble_eq_true rfl, Nat.le_of_ble_eq_true rfl⟩ (r_recv X S (ly_ok_1 (by decide) S.2.2.2) rfl rfl) rfl rfl hl.1 (Nat.le_of_ble_eq_true rfl) dX8_taken_17 (fun H locs S => ?_)
    refine lv_if_ne (tgt := 26) X.1 X.2.1 dX8_taken_20 (by decide) (fun c_4 => ?_) (fun c_4 => ?_)
    · have h := pz_f c_4 h
      refine lv_aload_n X.1 X.2.1 dX8_taken_26 rfl (lv_at hl 0 rfl) ?_
      refine gf_X8_10 X S (by decide) dX8_taken_27 ?_
      refine gf_X8_109 X S (by decide) dX8_taken_30 ?_
      refine lv_iload_n X.1 X.2.1 dX8_taken_33 rfl (lv_at hl 1 rfl) ?_
      obtain ⟨g_5, h⟩ := pz_gd_e h
      refine aa_17 X S (by decide) g_5 dX8_taken_34 ?_
      refine lv_iload_n X.1 X.2.1 dX8_taken_35 rfl (lv_at hl 2 rfl) ?_
      obtain ⟨q_6, eq_6, h⟩ := pz_bd_e h
      refine r_Vi X S (c_X6_isOf hn (el_17 (by decide) g_5) eq_6) gd_X8_232 ⟨rfl, ny_X6_isOf⟩ ⟨rfl, rfl⟩ ⟨Nat.le_of_ble_eq_true rfl, Nat.le_of_ble_eq_true rfl⟩ (r_recv X S (ly_ok_6 (el_17 (by decide) g_5) S.2.2.2) rfl rfl) rfl rfl hl.1 (Nat.le_of_ble_eq_true rfl) dX8_taken_36 (fun H locs S => ?_)
      refine lv_if_eq (tgt := 57) X.1 X.2.1 dX8_taken_39 (by decide) (fun c_7 => ?_) (fun c_7 => ?_)
      · have h := pz_t c_7 h
        refine lv_bipush (v := -13) X.1 X.2.1 dX8_taken_57 (by decide) ?_
        cases h
        exact r_iret X S dX8_taken_59
      have h := pz_f c_7 h
      refine lv_aload_n X.1 X.2.1 dX8_taken_42 rfl (lv_at hl 0 rfl) ?_
      refine gf_X8_10 X S (by decide) dX8_taken_43 ?_
      refine gf_X8_109 X S (by decide) dX8_taken_46 ?_
      refine lv_iload_n X.1 X.2.1 dX8_taken_49 rfl (lv_at hl 1 rfl) ?_
      obtain ⟨g_8, h⟩ := pz_gd_e h
      refine aa_17 X S (by decide) g_8 dX8_taken_50 ?_
      refine gf_X8_235 X S (el_17 (by decide) g_8) dX8_taken_51 ?_
      refine lv_goto (tgt := 59) X.1 X.2.1 dX8_taken_54 (by decide) ?_
      cases h
      exact r_iret X S dX8_taken_59
    have h := pz_t c_4 h
    refine lv_bipush (v := -11) X.1 X.2.1 dX8_taken_23 (by decide) ?_
    cases h
    exact r_iret X S dX8_taken_25
  have h := pz_f c_2 h
  refine lv_bipush (v := -2) X.1 X.2.1 dX8_taken_9 (by decide) ?_
  cases h
  exact r_iret X S dX8_taken_11
