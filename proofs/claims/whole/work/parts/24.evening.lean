def f_X8_within (N : Nat) (p1 : Int32) (p2 : Int32) (p3 : Int32) : Option (Int32) := some (if p2 < (if p1 < p3 then p1 else p3) then (if p1 < p3 then p1 else p3) else p2)
set_option maxRecDepth 100000 in
set_option maxHeartbeats 4000000 in
theorem c_X8_within {l : Launch} {G : cx_T} {N n : Nat} {I J : mm_T} {p1 : Int32} {p2 : Int32} {p3 : Int32} {z : Int32} (h : f_X8_within N p1 p2 p3 = some z) : ct_m l G n yX8_within cX8_within 3 (some .int) ({ frames := 1, cells := 0, slots := 0, locals := 60 }) [.int p1, .int p2, .int p3] I J (ct_qi G n I J z) := by
  refine ct_en (by decide) (Nat.le_of_ble_eq_true rfl) ?_
  intro p e s m args below meth c ls X S hl
  have X : cx_ok G p s m args meth c cX8_within 3 RX8 (some .int) := X
  have hl : lv_has ls 3 [(0, .int p1), (1, .int p2), (2, .int p3)] := hl
  have hn := S.2.2.2
  unfold f_X8_within at h
  refine lv_iload_n X.1 X.2.1 dX8_within_0 rfl (lv_at hl 1 rfl) ?_
  refine lv_iload_n X.1 X.2.1 dX8_within_1 rfl (lv_at hl 2 rfl) ?_
  refine lv_iload_n X.1 X.2.1 dX8_within_2 rfl (lv_at hl 0 rfl) ?_
  refine r_min X S (hl.1) mk_X8_250 (Nat.le_of_ble_eq_true rfl) (Nat.le_of_ble_eq_true rfl) dX8_within_3 ?_
  refine r_max X S (hl.1) mk_X8_255 (Nat.le_of_ble_eq_true rfl) (Nat.le_of_ble_eq_true rfl) dX8_within_6 ?_
  cases h
  exact r_iret X S dX8_within_9
def f_X0_begin (N n : Nat) (I : mm_T) (i0 : Nat) (t1 : Int32) : Option (mm_T) := pz_gd (decide (t1 ≠ -1)) <| pz_lt (mm_up I 0 i0 1 t1) fun I_2 => pz_lt (mm_row I_2 11 i0 (pz_fill (I_2 11 i0) 8 (0 : Int32))) fun I_3 => pz_lt (mm_row I_3 12 i0 (pz_fill (I_3 12 i0) 8 (0 : Int32))) fun I_4 => pz_lt (mm_row I_4 15 i0 (pz_fill (I_4 15 i0) 7 (-1 : Int32))) fun I_5 => pz_lt (mm_up I_5 0 i0 7 (0 : Int32)) fun I_6 => pz_lt (mm_up I_6 0 i0 9 (0 : Int32)) fun I_7 => pz_lt (mm_up I_7 0 i0 10 (0 : Int32)) fun I_8 => pz_lt (mm_up I_8 0 i0 11 (I_8 1 0 4)) fun I_9 => pz_lt (mm_up I_9 0 i0 12 (0 : Int32)) fun I_10 => pz_lt (mm_up I_10 0 i0 13 (0 : Int32)) fun I_11 => pz_lt (mm_up I_11 0 i0 14 (0 : Int32)) fun I_12 => pz_lt (mm_up I_12 0 i0 15 (((1 : Int32) <<< ((I_12 1 0 2) &&& 31)) - (1 : Int32))) fun I_13 => some I_13
set_option maxRecDepth 100000 in
set_option maxHeartbeats 4000000 in
theorem c_X0_begin {l : Launch} {G : cx_T} {N n : Nat} {I J : mm_T} {i0 : Nat} {t1 : Int32} (hn : 144 ≤ n) (hi0 : i0 < 9) {z : mm_T} (h : f_X0_begin N n I i0 t1 = some z) : ct_m l G n yX0_begin cX0_begin 2 none ({ frames := 1, cells := 0, slots := 0, locals := 60 }) [.ref (cx_b G + ly_loc 0 i0), .ref (cx_b G + ly_loc 7 t1.toNatClampNeg)] I J (ct_qv G n z J) := by
  refine ct_en (by decide) (Nat.le_of_ble_eq_true rfl) ?_
  intro p e s m args below meth c ls X S hl
  have X : cx_ok G p s m args meth c cX0_begin 2 RX0 none := X
  have hl : lv_has ls 2 [(0, .ref (cx_b G + ly_loc 0 i0)), (1, .ref (cx_b G + ly_loc 7 t1.toNatClampNeg))] := hl
  unfold f_X0_begin at h
  refine lv_aload_n X.1 X.2.1 dX0_begin_0 rfl (lv_at hl 0 rfl) ?_
  refine lv_aload_n X.1 X.2.1 dX0_begin_1 rfl (lv_at hl 1 rfl) ?_
  obtain ⟨g_1, h⟩ := pz_gd_e h
  refine pf_X0_34 X S hi0 (of_decide_eq_true g_1) dX0_begin_2 (fun I_2 H locs eI_2 S => ?_)
  have h := pz_lt_e h eI_2
  refine lv_aload_n X.1 X.2.1 dX0_begin_5 rfl (lv_at hl 0 rfl) ?_
  refine gf_X0_15 X S hi0 dX0_begin_6 ?_
  refine lv_iconst (v := 0) X.1 X.2.1 dX0_begin_9 (by decide) ?_
  obtain ⟨I_3, eI_3⟩ : ∃ z, z = mm_row I_2 11 i0 (pz_fill (I_2 11 i0) 8 (0 : Int32)) := ⟨_, rfl⟩
  have h := pz_lt_e h eI_3
  refine r_Sv X S (c_fill (N := 8) (ly_ok_11 hi0 S.2.2.2) rfl (fun _ => rfl) (Nat.le_of_ble_eq_true rfl)) gd_X0_38 ny_J7_fill_53178 ⟨rfl, rfl⟩ ⟨Nat.le_of_ble_eq_true rfl, Nat.le_of_ble_eq_true rfl⟩ rfl rfl hl.1 (Nat.le_of_ble_eq_true rfl) dX0_begin_10 (fun H locs S => ?_)
  rw [← eI_3] at S
  refine lv_aload_n X.1 X.2.1 dX0_begin_13 rfl (lv_at hl 0 rfl) ?_
  refine gf_X0_18 X S hi0 dX0_begin_14 ?_
  refine lv_iconst (v := 0) X.1 X.2.1 dX0_begin_17 (by decide) ?_
  obtain ⟨I_4, eI_4⟩ : ∃ z, z = mm_row I_3 12 i0 (pz_fill (I_3 12 i0) 8 (0 : Int32)) := ⟨_, rfl⟩
  have h := pz_lt_e h eI_4
  refine r_Sv X S (c_fill (N := 8) (ly_ok_12 hi0 S.2.2.2) rfl (fun _ => rfl) (Nat.le_of_ble_eq_true rfl)) gd_X0_38 ny_J7_fill_53178 ⟨rfl, rfl⟩ ⟨Nat.le_of_ble_eq_true rfl, Nat.le_of_ble_eq_true rfl⟩ rfl rfl hl.1 (Nat.le_of_ble_eq_true rfl) dX0_begin_18 (fun H locs S => ?_)
  rw [← eI_4] at S
  refine lv_aload_n X.1 X.2.1 dX0_begin_21 rfl (lv_at hl 0 rfl) ?_
  refine gf_X0_27 X S hi0 dX0_begin_22 ?_
  refine lv_iconst (v := -1) X.1 X.2.1 dX0_begin_25 (by decide) ?_
  obtain ⟨I_5, eI_5⟩ : ∃ z, z = mm_row I_4 15 i0 (pz_fill (I_4 15 i0) 7 (-1 : Int32)) := ⟨_, rfl⟩
  have h := pz_lt_e h eI_5
  refine r_Sv X S (c_fill (N := 7) (ly_ok_15 hi0 S.2.2.2) rfl (fun _ => rfl) (Nat.le_of_ble_eq_true rfl)) gd_X0_38 ny_J7_fill_53178 ⟨rfl, rfl⟩ ⟨Nat.le_of_ble_eq_true rfl, Nat.le_of_ble_eq_true rfl⟩ rfl rfl hl.1 (Nat.le_of_ble_eq_true rfl) dX0_begin_26 (fun H locs S => ?_)
  rw [← eI_5] at S
  refine lv_aload_n X.1 X.2.1 dX0_begin_29 rfl (lv_at hl 0 rfl) ?_
  refine lv_iconst (v := 0) X.1 X.2.1 dX0_begin_30 (by decide) ?_
  refine pf_X0_44 X S hi0 dX0_begin_31 (fun I_6 H locs eI_6 S => ?_)
  have h := pz_lt_e h eI_6
  refine lv_aload_n X.1 X.2.1 dX0_begin_34 rfl (lv_at hl 0 rfl) ?_
  refine lv_iconst (v := 0) X.1 X.2.1 dX0_begin_35 (by decide) ?_
  refine pf_X0_48 X S hi0 dX0_begin_36 (fun I_7 H locs eI_7 S => ?_)
  have h := pz_lt_e h eI_7
  refine lv_aload_n X.1 X.2.1 dX0_begin_39 rfl (lv_at hl 0 rfl) ?_
  refine lv_iconst (v := 0) X.1 X.2.1 dX0_begin_40 (by decide) ?_
  refine pf_X0_51 X S hi0 dX0_begin_41 (fun I_8 H locs eI_8 S => ?_)
  have h := pz_lt_e h eI_8
  refine lv_aload_n X.1 X.2.1 dX0_begin_44 rfl (lv_at hl 0 rfl) ?_
  refine lv_aload_n X.1 X.2.1 dX0_begin_45 rfl (lv_at hl 0 rfl) ?_
  refine gf_X0_30 X S hi0 dX0_begin_46 ?_
  refine gf_X0_54 X S (by decide) dX0_begin_49 ?_
  refine pf_X0_59 X S hi0 dX0_begin_52 (fun I_9 H locs eI_9 S => ?_)
  have h := pz_lt_e h eI_9
  refine lv_aload_n X.1 X.2.1 dX0_begin_55 rfl (lv_at hl 0 rfl) ?_
  refine lv_iconst (v := 0) X.1 X.2.1 dX0_begin_56 (by decide) ?_
  refine pf_X0_60 X S hi0 dX0_begin_57 (fun I_10 H locs eI_10 S => ?_)
  have h := pz_lt_e h eI_10
  refine lv_aload_n X.1 X.2.1 dX0_begin_60 rfl (lv_at hl 0 rfl) ?_
  refine lv_iconst (v := 0) X.1 X.2.1 dX0_begin_61 (by decide) ?_
  refine pf_X0_63 X S hi0 dX0_begin_62 (fun I_11 H locs eI_11 S => ?_)
  have h := pz_lt_e h eI_11
  refine lv_aload_n X.1 X.2.1 dX0_begin_65 rfl (lv_at hl 0 rfl) ?_
  refine lv_iconst (v := 0) X.1 X.2.1 dX0_begin_66 (by decide) ?_
  refine pf_X0_66 X S hi0 dX0_begin_67 (fun I_12 H locs eI_12 S => ?_)
  have h := pz_lt_e h eI_12
  refine lv_aload_n X.1 X.2.1 dX0_begin_70 rfl (lv_at hl 0 rfl) ?_
  refine lv_iconst (v := 1) X.1 X.2.1 dX0_begin_71 (by decide) ?_
  refine lv_aload_n X.1 X.2.1 dX0_begin_72 rfl (lv_at hl 0 rfl) ?_
  refine gf_X0_30 X S hi0 dX0_begin_73 ?_
  refine gf_X0_69 X S (by decide) dX0_begin_76 ?_
  refine lv_ishl X.1 X.2.1 dX0_begin_79 ?_
  refine lv_iconst (v := 1) X.1 X.2.1 dX0_begin_80 (by decide) ?_
  refine lv_isub X.1 X.2.1 dX0_begin_81 ?_
  refine pf_X0_72 X S hi0 dX0_begin_82 (fun I_13 H locs eI_13 S => ?_)
  have h := pz_lt_e h eI_13
  cases h
  exact r_vret X S dX0_begin_85
def f_X0_goOnFrom (N n : Nat) (I : mm_T) (i0 : Nat) (i1 : Nat) : Option (mm_T) := pz_gd (decide (¬ (I 0 i1 1) = -1)) <| pz_gd (decide ((I 0 i1 1) ≠ -1)) <| pz_lt (mm_up I 0 i0 1 (I 0 i1 1)) fun I_3 => pz_gd (pz_cp (0 : Int32) (0 : Int32) (8 : Int32) 8 8) <| pz_lt (mm_row I_3 11 i0 (va_cpy (I_3 11 i1) (I_3 11 i0) (0 : Int32).toNatClampNeg (0 : Int32).toNatClampNeg (8 : Int32).toNatClampNeg)) fun I_5 => pz_gd (pz_cp (0 : Int32) (0 : Int32) (8 : Int32) 8 8) <| pz_lt (mm_row I_5 12 i0 (va_cpy (I_5 12 i1) (I_5 12 i0) (0 : Int32).toNatClampNeg (0 : Int32).toNatClampNeg (8 : Int32).toNatClampNeg)) fun I_7 => pz_lt (mm_up I_7 0 i0 7 (I_7 0 i1 7)) fun I_8 => pz_lt (mm_up I_8 0 i0 9 (I_8 0 i1 9)) fun I_9 => pz_lt (mm_up I_9 0 i0 10 (I_9 0 i1 10)) fun I_10 => pz_lt (mm_up I_10 0 i0 11 (I_10 0 i1 11)) fun I_11 => pz_lt (mm_up I_11 0 i0 12 (I_11 0 i1 12)) fun I_12 => pz_lt (mm_up I_12 0 i0 13 (I_12 0 i1 13)) fun I_13 => pz_lt (mm_up I_13 0 i0 14 (I_13 0 i1 14)) fun I_14 => pz_lt (mm_up I_14 0 i0 15 (I_14 0 i1 15)) fun I_15 => some I_15
set_option maxRecDepth 100000 in
set_option maxHeartbeats 4000000 in
theorem c_X0_goOnFrom {l : Launch} {G : cx_T} {N n : Nat} {I J : mm_T} {i0 : Nat} {i1 : Nat} (hn : 144 ≤ n) (hi0 : i0 < 9) (hi1 : i1 < 9) {z : mm_T} (h : f_X0_goOnFrom N n I i0 i1 = some z) : ct_m l G n yX0_goOnFrom cX0_goOnFrom 2 none ({ frames := 1, cells := 0, slots := 0, locals := 60 }) [.ref (cx_b G + ly_loc 0 i0), .ref (cx_b G + ly_loc 0 i1)] I J (ct_qv G n z J) := by
  refine ct_en (by decide) (Nat.le_of_ble_eq_true rfl) ?_
  intro p e s m args below meth c ls X S hl
  have X : cx_ok G p s m args meth c cX0_goOnFrom 2 RX0 none := X
  have hl : lv_has ls 2 [(0, .ref (cx_b G + ly_loc 0 i0)), (1, .ref (cx_b G + ly_loc 0 i1))] := hl
  unfold f_X0_goOnFrom at h
  refine lv_aload_n X.1 X.2.1 dX0_goOnFrom_0 rfl (lv_at hl 0 rfl) ?_
  refine lv_aload_n X.1 X.2.1 dX0_goOnFrom_1 rfl (lv_at hl 1 rfl) ?_
  obtain ⟨g_1, h⟩ := pz_gd_e h
  refine gf_X0_34 X S hi1 dX0_goOnFrom_2 ?_
  rw [ly_tx_ne (of_decide_eq_true g_1)]
  obtain ⟨g_2, h⟩ := pz_gd_e h
  refine pf_X0_34 X S hi0 (of_decide_eq_true g_2) dX0_goOnFrom_5 (fun I_3 H locs eI_3 S => ?_)
  have h := pz_lt_e h eI_3
  refine lv_aload_n X.1 X.2.1 dX0_goOnFrom_8 rfl (lv_at hl 1 rfl) ?_
  refine gf_X0_15 X S hi1 dX0_goOnFrom_9 ?_
  refine lv_iconst (v := 0) X.1 X.2.1 dX0_goOnFrom_12 (by decide) ?_
  refine lv_aload_n X.1 X.2.1 dX0_goOnFrom_13 rfl (lv_at hl 0 rfl) ?_
  refine gf_X0_15 X S hi0 dX0_goOnFrom_14 ?_
  refine lv_iconst (v := 0) X.1 X.2.1 dX0_goOnFrom_17 (by decide) ?_
  refine lv_bipush (v := 8) X.1 X.2.1 dX0_goOnFrom_18 (by decide) ?_
  obtain ⟨g_4, h⟩ := pz_gd_e h
  refine r_copy X S (ly_ok_11 hi1 S.2.2.2) (ly_ok_11 hi0 S.2.2.2) rfl rfl (fun _ => rfl) (fun _ => rfl) hl.1 mc_X0_75 g_4 (Nat.le_of_ble_eq_true rfl) (Nat.le_of_ble_eq_true rfl) dX0_goOnFrom_20 (fun I_5 H locs eI_5 S => ?_)
  have h := pz_lt_e h eI_5
  refine lv_aload_n X.1 X.2.1 dX0_goOnFrom_23 rfl (lv_at hl 1 rfl) ?_
  refine gf_X0_18 X S hi1 dX0_goOnFrom_24 ?_
  refine lv_iconst (v := 0) X.1 X.2.1 dX0_goOnFrom_27 (by decide) ?_
  refine lv_aload_n X.1 X.2.1 dX0_goOnFrom_28 rfl (lv_at hl 0 rfl) ?_
  refine gf_X0_18 X S hi0 dX0_goOnFrom_29 ?_
  refine lv_iconst (v := 0) X.1 X.2.1 dX0_goOnFrom_32 (by decide) ?_
  refine lv_bipush (v := 8) X.1 X.2.1 dX0_goOnFrom_33 (by decide) ?_
  obtain ⟨g_6, h⟩ := pz_gd_e h
  refine r_copy X S (ly_ok_12 hi1 S.2.2.2) (ly_ok_12 hi0 S.2.2.2) rfl rfl (fun _ => rfl) (fun _ => rfl) hl.1 mc_X0_75 g_6 (Nat.le_of_ble_eq_true rfl) (Nat.le_of_ble_eq_true rfl) dX0_goOnFrom_35 (fun I_7 H locs eI_7 S => ?_)
  have h := pz_lt_e h eI_7
  refine lv_aload_n X.1 X.2.1 dX0_goOnFrom_38 rfl (lv_at hl 0 rfl) ?_
  refine lv_aload_n X.1 X.2.1 dX0_goOnFrom_39 rfl (lv_at hl 1 rfl) ?_
  refine gf_X0_44 X S hi1 dX0_goOnFrom_40 ?_
  refine pf_X0_44 X S hi0 dX0_goOnFrom_43 (fun I_8 H locs eI_8 S => ?_)
  have h := pz_lt_e h eI_8
  refine lv_aload_n X.1 X.2.1 dX0_goOnFrom_46 rfl (lv_at hl 0 rfl) ?_
  refine lv_aload_n X.1 X.2.1 dX0_goOnFrom_47 rfl (lv_at hl 1 rfl) ?_
  refine gf_X0_48 X S hi1 dX0_goOnFrom_48 ?_
  refine pf_X0_48 X S hi0 dX0_goOnFrom_51 (fun I_9 H locs eI_9 S => ?_)
  have h := pz_lt_e h eI_9
  refine lv_aload_n X.1 X.2.1 dX0_goOnFrom_54 rfl (lv_at hl 0 rfl) ?_
  refine lv_aload_n X.1 X.2.1 dX0_goOnFrom_55 rfl (lv_at hl 1 rfl) ?_
  refine gf_X0_51 X S hi1 dX0_goOnFrom_56 ?_
  refine pf_X0_51 X S hi0 dX0_goOnFrom_59 (fun I_10 H locs eI_10 S => ?_)
  have h := pz_lt_e h eI_10
  refine lv_aload_n X.1 X.2.1 dX0_goOnFrom_62 rfl (lv_at hl 0 rfl) ?_
  refine lv_aload_n X.1 X.2.1 dX0_goOnFrom_63 rfl (lv_at hl 1 rfl) ?_
  refine gf_X0_59 X S hi1 dX0_goOnFrom_64 ?_
  refine pf_X0_59 X S hi0 dX0_goOnFrom_67 (fun I_11 H locs eI_11 S => ?_)
  have h := pz_lt_e h eI_11
  refine lv_aload_n X.1 X.2.1 dX0_goOnFrom_70 rfl (lv_at hl 0 rfl) ?_
  refine lv_aload_n X.1 X.2.1 dX0_goOnFrom_71 rfl (lv_at hl 1 rfl) ?_
  refine gf_X0_60 X S hi1 dX0_goOnFrom_72 ?_
  refine pf_X0_60 X S hi0 dX0_goOnFrom_75 (fun I_12 H locs eI_12 S => ?_)
  have h := pz_lt_e h eI_12
  refine lv_aload_n X.1 X.2.1 dX0_goOnFrom_78 rfl (lv_at hl 0 rfl) ?_
  refine lv_aload_n X.1 X.2.1 dX0_goOnFrom_79 rfl (lv_at hl 1 rfl) ?_
  refine gf_X0_63 X S hi1 dX0_goOnFrom_80 ?_
  refine pf_X0_63 X S hi0 dX0_goOnFrom_83 (fun I_13 H locs eI_13 S => ?_)
  have h := pz_lt_e h eI_13
  refine lv_aload_n X.1 X.2.1 dX0_goOnFrom_86 rfl (lv_at hl 0 rfl) ?_
  refine lv_aload_n X.1 X.2.1 dX0_goOnFrom_87 rfl (lv_at hl 1 rfl) ?_
  refine gf_X0_66 X S hi1 dX0_goOnFrom_88 ?_
  refine pf_X0_66 X S hi0 dX0_goOnFrom_91 (fun I_14 H locs eI_14 S => ?_)
  have h := pz_lt_e h eI_14
  refine lv_aload_n X.1 X.2.1 dX0_goOnFrom_94 rfl (lv_at hl 0 rfl) ?_
  refine lv_aload_n X.1 X.2.1 dX0_goOnFrom_95 rfl (lv_at hl 1 rfl) ?_
  refine gf_X0_72 X S hi1 dX0_goOnFrom_96 ?_
  refine pf_X0_72 X S hi0 dX0_goOnFrom_99 (fun I_15 H locs eI_15 S => ?_)
  have h := pz_lt_e h eI_15
  cases h
  exact r_vret X S dX0_goOnFrom_102
def f_X0_rowAsDigits_L4 (N n : Nat) (I : mm_T) (i0 : Nat) : Nat → Int32 → Int32 → Option (Int32)
  | 0, _, _ => none
  | cnt + 1, a1, a2 => if (I 0 i0 7) ≤ a2 then (some a1) else (pz_gd (ix_in a2 7) <| pz_lt (((a1 * (10 : Int32)) + (I 14 i0 a2.toNatClampNeg)) + (1 : Int32)) fun x_3 => pz_lt (a2 + (1 : Int32)) fun x_4 => f_X0_rowAsDigits_L4 N n I i0 cnt x_3 x_4)
set_option maxRecDepth 100000 in
set_option maxHeartbeats 4000000 in
theorem w_X0_rowAsDigits_L4 {l : Launch} {G : cx_T} {p : Program} {e : Env} {s : State} {m : MethodId} {args : Array Value} {below : List Frame} {meth : Method} {c : Code} {N n : Nat} {I J : mm_T} {i0 : Nat} (X : cx_ok G p s m args meth c cX0_rowAsDigits 3 RX0 (some .int)) (hn : 144 ≤ n) (hi0 : i0 < 9) {z : Int32} : ∀ (cnt : Nat) {a1 : Int32} {a2 : Int32} {H : Heap} {locs : List Loc} {ls : Array Slot} , f_X0_rowAsDigits_L4 N n I i0 cnt a1 a2 = some z → st_ok G n I J s H locs → lv_has ls 3 [(0, .ref (cx_b G + ly_loc 0 i0)), (1, .int a1), (2, .int a2)] → W p l e ({ frames := 0, cells := 0, slots := 0, locals := 0 }) s m args below meth c H locs 0 0 (MQ below (ct_qi G n I J z) args s 0 0 (cx_A G)) (F0 m 4 ls []) := by
  intro cnt
  induction cnt with
  | zero =>
    intro a1 a2 H locs ls h
    rw [f_X0_rowAsDigits_L4] at h
    cases h
  | succ cnt ih =>
    intro a1 a2 H locs ls h S hl
    rw [f_X0_rowAsDigits_L4] at h
    refine lv_iload_n X.1 X.2.1 dX0_rowAsDigits_4 rfl (lv_at hl 2 rfl) ?_
    refine lv_aload_n X.1 X.2.1 dX0_rowAsDigits_5 rfl (lv_at hl 0 rfl) ?_
    refine gf_X0_44 X S hi0 dX0_rowAsDigits_6 ?_
    refine lv_icmp_ge (tgt := 32) X.1 X.2.1 dX0_rowAsDigits_9 (by decide) (fun c_1 => ?_) (fun c_1 => ?_)
    · have h := pz_t c_1 h
      refine lv_iload_n X.1 X.2.1 dX0_rowAsDigits_32 rfl (lv_at hl 1 rfl) ?_
      cases h
      exact r_iret X S dX0_rowAsDigits_33
    have h := pz_f c_1 h
    refine lv_iload_n X.1 X.2.1 dX0_rowAsDigits_12 rfl (lv_at hl 1 rfl) ?_
    refine lv_bipush (v := 10) X.1 X.2.1 dX0_rowAsDigits_13 (by decide) ?_
    refine lv_imul X.1 X.2.1 dX0_rowAsDigits_15 ?_
    refine lv_aload_n X.1 X.2.1 dX0_rowAsDigits_16 rfl (lv_at hl 0 rfl) ?_
    refine gf_X0_24 X S hi0 dX0_rowAsDigits_17 ?_
    refine lv_iload_n X.1 X.2.1 dX0_rowAsDigits_20 rfl (lv_at hl 2 rfl) ?_
    obtain ⟨g_2, h⟩ := pz_gd_e h
    refine al_14 X S hi0 g_2 dX0_rowAsDigits_21 ?_
    refine lv_iadd X.1 X.2.1 dX0_rowAsDigits_22 ?_
    refine lv_iconst (v := 1) X.1 X.2.1 dX0_rowAsDigits_23 (by decide) ?_
    refine lv_iadd X.1 X.2.1 dX0_rowAsDigits_24 ?_
    refine lv_topi (fun x_3 ex_3 => ?_)
    have h := pz_lt_e h ex_3
    refine lv_istore_n (lv' := [(1, .int x_3), (0, .ref (cx_b G + ly_loc 0 i0)), (2, .int a2)]) X.1 X.2.1 dX0_rowAsDigits_25 rfl hl (by decide) rfl (fun ls hl => ?_)
    obtain ⟨x_4, ex_4⟩ : ∃ y : Int32, y = (a2 + (1 : Int32)) := ⟨_, rfl⟩
    have h := pz_lt_e h ex_4
    refine lv_iinc (v := x_4) (lv' := [(2, .int x_4), (1, .int x_3), (0, .ref (cx_b G + ly_loc 0 i0))]) X.1 X.2.1 dX0_rowAsDigits_26 hl (k := 2) rfl (by rw [ex_4]; rfl) (by decide) rfl (fun ls hl => ?_)
    refine lv_goto (tgt := 4) X.1 X.2.1 dX0_rowAsDigits_29 (by decide) ?_
    exact ih h S (lv_sub hl [2, 1, 0] rfl)
def f_X0_rowAsDigits (N n : Nat) (I : mm_T) (i0 : Nat) : Option (Int32) := f_X0_rowAsDigits_L4 N n I i0 N (0 : Int32) (0 : Int32)
set_option maxRecDepth 100000 in
set_option maxHeartbeats 4000000 in
theorem c_X0_rowAsDigits {l : Launch} {G : cx_T} {N n : Nat} {I J : mm_T} {i0 : Nat} (hn : 144 ≤ n) (hi0 : i0 < 9) {z : Int32} (h : f_X0_rowAsDigits N n I i0 = some z) : ct_m l G n yX0_rowAsDigits cX0_rowAsDigits 3 (some .int) ({ frames := 0, cells := 0, slots := 0, locals := 0 }) [.ref (cx_b G + ly_loc 0 i0)] I J (ct_qi G n I J z) := by
  refine ct_en (by decide) (Nat.le_of_ble_eq_true rfl) ?_
  intro p e s m args below meth c ls X S hl
  have X : cx_ok G p s m args meth c cX0_rowAsDigits 3 RX0 (some .int) := X
  have hl : lv_has ls 3 [(0, .ref (cx_b G + ly_loc 0 i0))] := hl
  unfold f_X0_rowAsDigits at h
  refine lv_iconst (v := 0) X.1 X.2.1 dX0_rowAsDigits_0 (by decide) ?_
  refine lv_istore_n (lv' := [(1, .int (0 : Int32)), (0, .ref (cx_b G + ly_loc 0 i0))]) X.1 X.2.1 dX0_rowAsDigits_1 rfl hl (by decide) rfl (fun ls hl => ?_)
  refine lv_iconst (v := 0) X.1 X.2.1 dX0_rowAsDigits_2 (by decide) ?_
  refine lv_istore_n (lv' := [(2, .int (0 : Int32)), (1, .int (0 : Int32)), (0, .ref (cx_b G + ly_loc 0 i0))]) X.1 X.2.1 dX0_rowAsDigits_3 rfl hl (by decide) rfl (fun ls hl => ?_)
  exact w_X0_rowAsDigits_L4 X hn hi0 N h S (lv_sub hl [2, 1, 0] rfl)
def f_X0_answer (N n : Nat) (I : mm_T) (i0 : Nat) (p1 : Int32) : Option (Int32) := pz_lt p1 fun x_1 => if x_1 = (0 : Int32) then (some (I 0 i0 12)) else if x_1 = (1 : Int32) then (some (I 0 i0 13)) else if x_1 = (2 : Int32) then (some (I 0 i0 14)) else if x_1 = (3 : Int32) then (some (I 0 i0 11)) else if x_1 = (4 : Int32) then (some (I 0 i0 10)) else if x_1 = (5 : Int32) then (some (I 0 i0 15)) else (pz_bd (f_X0_rowAsDigits N n I i0) fun q_8 => some q_8)
set_option maxRecDepth 100000 in
set_option maxHeartbeats 4000000 in
theorem c_X0_answer {l : Launch} {G : cx_T} {N n : Nat} {I J : mm_T} {i0 : Nat} {p1 : Int32} (hn : 144 ≤ n) (hi0 : i0 < 9) {z : Int32} (h : f_X0_answer N n I i0 p1 = some z) : ct_m l G n yX0_answer cX0_answer 2 (some .int) ({ frames := 1, cells := 0, slots := 0, locals := 22 }) [.ref (cx_b G + ly_loc 0 i0), .int p1] I J (ct_qi G n I J z) := by
  refine ct_en (by decide) (Nat.le_of_ble_eq_true rfl) ?_
  intro p e s m args below meth c ls X S hl
  have X : cx_ok G p s m args meth c cX0_answer 2 RX0 (some .int) := X
  have hl : lv_has ls 2 [(0, .ref (cx_b G + ly_loc 0 i0)), (1, .int p1)] := hl
  unfold f_X0_answer at h
  refine lv_iload_n X.1 X.2.1 dX0_answer_0 rfl (lv_at hl 1 rfl) ?_
  refine lv_topi (fun x_1 ex_1 => ?_)
  have h := pz_lt_e h ex_1
  rcases Decidable.em (x_1 = (0 : Int32)) with c_2 | c_2
  · have h := pz_t c_2 h
    refine lv_tableIn (off := 39) (tgt := 40) X.1 X.2.1 dX0_answer_1 (by rw [c_2]; decide +kernel) (by rw [c_2]; decide +kernel) (by rw [c_2]; decide +kernel) (by decide) ?_
    refine lv_aload_n X.1 X.2.1 dX0_answer_40 rfl (lv_at hl 0 rfl) ?_
    refine gf_X0_60 X S hi0 dX0_answer_41 ?_
    cases h
    exact r_iret X S dX0_answer_44
  have h := pz_f c_2 h
  rcases Decidable.em (x_1 = (1 : Int32)) with c_3 | c_3
  · have h := pz_t c_3 h
    refine lv_tableIn (off := 44) (tgt := 45) X.1 X.2.1 dX0_answer_1 (by rw [c_3]; decide +kernel) (by rw [c_3]; decide +kernel) (by rw [c_3]; decide +kernel) (by decide) ?_
    refine lv_aload_n X.1 X.2.1 dX0_answer_45 rfl (lv_at hl 0 rfl) ?_
    refine gf_X0_63 X S hi0 dX0_answer_46 ?_
    cases h
    exact r_iret X S dX0_answer_49
  have h := pz_f c_3 h
  rcases Decidable.em (x_1 = (2 : Int32)) with c_4 | c_4
  · have h := pz_t c_4 h
    refine lv_tableIn (off := 49) (tgt := 50) X.1 X.2.1 dX0_answer_1 (by rw [c_4]; decide +kernel) (by rw [c_4]; decide +kernel) (by rw [c_4]; decide +kernel) (by decide) ?_
    refine lv_aload_n X.1 X.2.1 dX0_answer_50 rfl (lv_at hl 0 rfl) ?_
    refine gf_X0_66 X S hi0 dX0_answer_51 ?_
    cases h
    exact r_iret X S dX0_answer_54
  have h := pz_f c_4 h
  rcases Decidable.em (x_1 = (3 : Int32)) with c_5 | c_5
  · have h := pz_t c_5 h
    refine lv_tableIn (off := 54) (tgt := 55) X.1 X.2.1 dX0_answer_1 (by rw [c_5]; decide +kernel) (by rw [c_5]; decide +kernel) (by rw [c_5]; decide +kernel) (by decide) ?_
    refine lv_aload_n X.1 X.2.1 dX0_answer_55 rfl (lv_at hl 0 rfl) ?_
    refine gf_X0_59 X S hi0 dX0_answer_56 ?_
    cases h
    exact r_iret X S dX0_answer_59
  have h := pz_f c_5 h
  rcases Decidable.em (x_1 = (4 : Int32)) with c_6 | c_6
  · have h := pz_t c_6 h
    refine lv_tableIn (off := 59) (tgt := 60) X.1 X.2.1 dX0_answer_1 (by rw [c_6]; decide +kernel) (by rw [c_6]; decide +kernel) (by rw [c_6]; decide +kernel) (by decide) ?_
    refine lv_aload_n X.1 X.2.1 dX0_answer_60 rfl (lv_at hl 0 rfl) ?_
    refine gf_X0_51 X S hi0 dX0_answer_61 ?_
    cases h
    exact r_iret X S dX0_answer_64
  have h := pz_f c_6 h
  rcases Decidable.em (x_1 = (5 : Int32)) with c_7 | c_7
  · have h := pz_t c_7 h
    refine lv_tableIn (off := 64) (tgt := 65) X.1 X.2.1 dX0_answer_1 (by rw [c_7]; decide +kernel) (by rw [c_7]; decide +kernel) (by rw [c_7]; decide +kernel) (by decide) ?_
    refine lv_aload_n X.1 X.2.1 dX0_answer_65 rfl (lv_at hl 0 rfl) ?_
    refine gf_X0_72 X S hi0 dX0_answer_66 ?_
    cases h
    exact r_iret X S dX0_answer_69
  have h := pz_f c_7 h
  refine lv_tableOut (tgt := 70) X.1 X.2.1 dX0_answer_1 (pz_out 0 5 [(0 : Int32), (1 : Int32), (2 : Int32), (3 : Int32), (4 : Int32), (5 : Int32)] (by decide +kernel) (by simp only [List.forall_mem_cons, List.not_mem_nil, false_imp_iff, implies_true, and_true]; exact ⟨c_2, c_3, c_4, c_5, c_6, c_7⟩)) (by decide) ?_
  refine lv_aload_n X.1 X.2.1 dX0_answer_70 rfl (lv_at hl 0 rfl) ?_
  obtain ⟨q_8, eq_8, h⟩ := pz_bd_e h
  refine r_Vi X S (c_X0_rowAsDigits hn hi0 eq_8) gd_X0_81 ⟨rfl, ny_X0_rowAsDigits⟩ ⟨rfl, rfl⟩ ⟨Nat.le_of_ble_eq_true rfl, Nat.le_of_ble_eq_true rfl⟩ (r_recv X S (ly_ok_0 hi0 S.2.2.2) rfl rfl) rfl rfl hl.1 (Nat.le_of_ble_eq_true rfl) dX0_answer_71 (fun H locs S => ?_)
  cases h
  exact r_iret X S dX0_answer_74
def f_X0_wasCalled (N n : Nat) (I : mm_T) (i0 : Nat) (p1 : Int32) : Option (Int32) := if (((I 0 i0 9) >>> (p1 &&& 31)) &&& (1 : Int32)) = (1 : Int32) then (some (1 : Int32)) else (some (0 : Int32))
set_option maxRecDepth 100000 in
set_option maxHeartbeats 4000000 in
theorem c_X0_wasCalled {l : Launch} {G : cx_T} {N n : Nat} {I J : mm_T} {i0 : Nat} {p1 : Int32} (hn : 144 ≤ n) (hi0 : i0 < 9) {z : Int32} (h : f_X0_wasCalled N n I i0 p1 = some z) : ct_m l G n yX0_wasCalled cX0_wasCalled 2 (some .boolean) ({ frames := 0, cells := 0, slots := 0, locals := 0 }) [.ref (cx_b G + ly_loc 0 i0), .int p1] I J (ct_qi G n I J z) := by
  refine ct_en (by decide) (Nat.le_of_ble_eq_true rfl) ?_
  intro p e s m args below meth c ls X S hl
  have X : cx_ok G p s m args meth c cX0_wasCalled 2 RX0 (some .boolean) := X
  have hl : lv_has ls 2 [(0, .ref (cx_b G + ly_loc 0 i0)), (1, .int p1)] := hl
  unfold f_X0_wasCalled at h
  refine lv_aload_n X.1 X.2.1 dX0_wasCalled_0 rfl (lv_at hl 0 rfl) ?_
  refine gf_X0_48 X S hi0 dX0_wasCalled_1 ?_
  refine lv_iload_n X.1 X.2.1 dX0_wasCalled_4 rfl (lv_at hl 1 rfl) ?_
  refine lv_ishr X.1 X.2.1 dX0_wasCalled_5 ?_
  refine lv_iconst (v := 1) X.1 X.2.1 dX0_wasCalled_6 (by decide) ?_
  refine lv_iand X.1 X.2.1 dX0_wasCalled_7 ?_
  refine lv_iconst (v := 1) X.1 X.2.1 dX0_wasCalled_8 (by decide) ?_
  refine lv_icmp_ne (tgt := 16) X.1 X.2.1 dX0_wasCalled_9 (by decide) (fun c_1 => ?_) (fun c_1 => ?_)
  · have h := pz_f c_1 h
    refine lv_iconst (v := 0) X.1 X.2.1 dX0_wasCalled_16 (by decide) ?_
    cases h
    exact r_zret (v := 0) X S rfl dX0_wasCalled_17
  have h := pz_t c_1 h
  refine lv_iconst (v := 1) X.1 X.2.1 dX0_wasCalled_12 (by decide) ?_
  refine lv_goto (tgt := 17) X.1 X.2.1 dX0_wasCalled_13 (by decide) ?_
  cases h
  exact r_zret (v := 1) X S rfl dX0_wasCalled_17
def f_X0_leaveOut (N n : Nat) (I : mm_T) (i0 : Nat) (p1 : Int32) : Option (mm_T) := pz_bd (f_X1_hasSlip N n I 0 p1) fun q_1 => if q_1 = 0 then (some I) else (pz_lt (mm_up I 0 i0 9 ((I 0 i0 9) ||| ((1 : Int32) <<< (p1 &&& 31)))) fun I_3 => some I_3)
set_option maxRecDepth 100000 in
set_option maxHeartbeats 4000000 in
theorem c_X0_leaveOut {l : Launch} {G : cx_T} {N n : Nat} {I J : mm_T} {i0 : Nat} {p1 : Int32} (hn : 144 ≤ n) (hi0 : i0 < 9) {z : mm_T} (h : f_X0_leaveOut N n I i0 p1 = some z) : ct_m l G n yX0_leaveOut cX0_leaveOut 2 none ({ frames := 1, cells := 0, slots := 0, locals := 21 }) [.ref (cx_b G + ly_loc 0 i0), .int p1] I J (ct_qv G n z J) := by
  refine ct_en (by decide) (Nat.le_of_ble_eq_true rfl) ?_
  intro p e s m args below meth c ls X S hl
  have X : cx_ok G p s m args meth c cX0_leaveOut 2 RX0 none := X
  have hl : lv_has ls 2 [(0, .ref (cx_b G + ly_loc 0 i0)), (1, .int p1)] := hl
  unfold f_X0_leaveOut at h
  refine lv_aload_n X.1 X.2.1 dX0_leaveOut_0 rfl (lv_at hl 0 rfl) ?_
  refine gf_X0_30 X S hi0 dX0_leaveOut_1 ?_
  refine lv_iload_n X.1 X.2.1 dX0_leaveOut_4 rfl (lv_at hl 1 rfl) ?_
  obtain ⟨q_1, eq_1, h⟩ := pz_bd_e h
  refine r_Vi X S (c_X1_hasSlip hn (by decide) eq_1) gd_X0_85 ⟨rfl, ny_X1_hasSlip⟩ ⟨rfl, rfl⟩ ⟨Nat.le_of_ble_eq_true rfl, Nat.le_of_ble_eq_true rfl⟩ (r_recv X S (ly_ok_1 (by decide) S.2.2.2) rfl rfl) rfl rfl hl.1 (Nat.le_of_ble_eq_true rfl) dX0_leaveOut_5 (fun H locs S => ?_)
  refine lv_if_eq (tgt := 23) X.1 X.2.1 dX0_leaveOut_8 (by decide) (fun c_2 => ?_) (fun c_2 => ?_)
  · have h := pz_t c_2 h
    cases h
    exact r_vret X S dX0_leaveOut_23
  have h := pz_f c_2 h
  refine lv_aload_n X.1 X.2.1 dX0_leaveOut_11 rfl (lv_at hl 0 rfl) ?_
  refine lv_dup X.1 X.2.1 dX0_leaveOut_12 rfl ?_
  refine gf_X0_48 X S hi0 dX0_leaveOut_13 ?_
  refine lv_iconst (v := 1) X.1 X.2.1 dX0_leaveOut_16 (by decide) ?_
  refine lv_iload_n X.1 X.2.1 dX0_leaveOut_17 rfl (lv_at hl 1 rfl) ?_
  refine lv_ishl X.1 X.2.1 dX0_leaveOut_18 ?_
  refine lv_ior X.1 X.2.1 dX0_leaveOut_19 ?_
  refine pf_X0_48 X S hi0 dX0_leaveOut_20 (fun I_3 H locs eI_3 S => ?_)
  have h := pz_lt_e h eI_3
  cases h
  exact r_vret X S dX0_leaveOut_23
def f_X0_wouldBeSung (N n : Nat) (I : mm_T) (i0 : Nat) (p1 : Int32) : Option (Int32) := pz_gd (ix_in p1 7) <| if (((I 0 i0 15) >>> ((I 6 (7 * 0 + p1.toNatClampNeg) 3) &&& 31)) &&& (1 : Int32)) = (1 : Int32) then (if (I 1 0 5) < ((I 0 i0 10) + (I 6 (7 * 0 + p1.toNatClampNeg) 2)) then (some (0 : Int32)) else (some (1 : Int32))) else (some (0 : Int32))
set_option maxRecDepth 100000 in
set_option maxHeartbeats 4000000 in
theorem c_X0_wouldBeSung {l : Launch} {G : cx_T} {N n : Nat} {I J : mm_T} {i0 : Nat} {p1 : Int32} (hn : 144 ≤ n) (hi0 : i0 < 9) {z : Int32} (h : f_X0_wouldBeSung N n I i0 p1 = some z) : ct_m l G n yX0_wouldBeSung cX0_wouldBeSung 3 (some .boolean) ({ frames := 0, cells := 0, slots := 0, locals := 0 }) [.ref (cx_b G + ly_loc 0 i0), .int p1] I J (ct_qi G n I J z) := by
  refine ct_en (by decide) (Nat.le_of_ble_eq_true rfl) ?_
  intro p e s m args below meth c ls X S hl
  have X : cx_ok G p s m args meth c cX0_wouldBeSung 3 RX0 (some .boolean) := X
  have hl : lv_has ls 3 [(0, .ref (cx_b G + ly_loc 0 i0)), (1, .int p1)] := hl
  unfold f_X0_wouldBeSung at h
  refine lv_aload_n X.1 X.2.1 dX0_wouldBeSung_0 rfl (lv_at hl 0 rfl) ?_
  refine gf_X0_30 X S hi0 dX0_wouldBeSung_1 ?_
  refine gf_X0_89 X S (by decide) dX0_wouldBeSung_4 ?_
  refine lv_iload_n X.1 X.2.1 dX0_wouldBeSung_7 rfl (lv_at hl 1 rfl) ?_
  obtain ⟨g_1, h⟩ := pz_gd_e h
  refine aa_17 X S (by decide) g_1 dX0_wouldBeSung_8 ?_
  refine lv_astore_n (lv' := [(2, .ref (cx_b G + ly_loc 6 (7 * 0 + p1.toNatClampNeg))), (0, .ref (cx_b G + ly_loc 0 i0)), (1, .int p1)]) X.1 X.2.1 dX0_wouldBeSung_9 rfl hl (by decide) rfl (fun ls hl => ?_)
  refine lv_aload_n X.1 X.2.1 dX0_wouldBeSung_10 rfl (lv_at hl 1 rfl) ?_
  refine gf_X0_72 X S hi0 dX0_wouldBeSung_11 ?_
  refine lv_aload_n X.1 X.2.1 dX0_wouldBeSung_14 rfl (lv_at hl 0 rfl) ?_
  refine gf_X0_93 X S (el_17 (by decide) g_1) dX0_wouldBeSung_15 ?_
  refine lv_ishr X.1 X.2.1 dX0_wouldBeSung_18 ?_
  refine lv_iconst (v := 1) X.1 X.2.1 dX0_wouldBeSung_19 (by decide) ?_
  refine lv_iand X.1 X.2.1 dX0_wouldBeSung_20 ?_
  refine lv_iconst (v := 1) X.1 X.2.1 dX0_wouldBeSung_21 (by decide) ?_
  refine lv_icmp_ne (tgt := 48) X.1 X.2.1 dX0_wouldBeSung_22 (by decide) (fun c_2 => ?_) (fun c_2 => ?_)
  · have h := pz_f c_2 h
    refine lv_iconst (v := 0) X.1 X.2.1 dX0_wouldBeSung_48 (by decide) ?_
    cases h
    exact r_zret (v := 0) X S rfl dX0_wouldBeSung_49
  have h := pz_t c_2 h
  refine lv_aload_n X.1 X.2.1 dX0_wouldBeSung_25 rfl (lv_at hl 1 rfl) ?_
  refine gf_X0_51 X S hi0 dX0_wouldBeSung_26 ?_
  refine lv_aload_n X.1 X.2.1 dX0_wouldBeSung_29 rfl (lv_at hl 0 rfl) ?_
  refine gf_X0_98 X S (el_17 (by decide) g_1) dX0_wouldBeSung_30 ?_
  refine lv_iadd X.1 X.2.1 dX0_wouldBeSung_33 ?_
  refine lv_aload_n X.1 X.2.1 dX0_wouldBeSung_34 rfl (lv_at hl 1 rfl) ?_
  refine gf_X0_30 X S hi0 dX0_wouldBeSung_35 ?_
  refine gf_X0_101 X S (by decide) dX0_wouldBeSung_38 ?_
  refine lv_icmp_gt (tgt := 48) X.1 X.2.1 dX0_wouldBeSung_41 (by decide) (fun c_3 => ?_) (fun c_3 => ?_)
  · have h := pz_t c_3 h
    refine lv_iconst (v := 0) X.1 X.2.1 dX0_wouldBeSung_48 (by decide) ?_
    cases h
    exact r_zret (v := 0) X S rfl dX0_wouldBeSung_49
  have h := pz_f c_3 h
  refine lv_iconst (v := 1) X.1 X.2.1 dX0_wouldBeSung_44 (by decide) ?_
  refine lv_goto (tgt := 49) X.1 X.2.1 dX0_wouldBeSung_45 (by decide) ?_
  cases h
  exact r_zret (v := 1) X S rfl dX0_wouldBeSung_49
def f_X0_nameAll (N n : Nat) (I : mm_T) (i0 : Nat) (p1 : Int32) (p2 : Int32) (p3 : Int32) : Option (mm_T) := pz_lt (mm_up I 10 i0 (0 : Int32).toNatClampNeg (I 0 i0 10)) fun I_1 => pz_lt (mm_up I_1 10 i0 (1 : Int32).toNatClampNeg p1) fun I_2 => pz_lt (mm_up I_2 10 i0 (2 : Int32).toNatClampNeg p2) fun I_3 => pz_lt (mm_up I_3 10 i0 (3 : Int32).toNatClampNeg p3) fun I_4 => pz_lt (mm_up I_4 10 i0 (4 : Int32).toNatClampNeg (I_4 0 i0 12)) fun I_5 => pz_lt (mm_up I_5 10 i0 (5 : Int32).toNatClampNeg (I_5 0 i0 11)) fun I_6 => some I_6
set_option maxRecDepth 100000 in
set_option maxHeartbeats 4000000 in
theorem c_X0_nameAll {l : Launch} {G : cx_T} {N n : Nat} {I J : mm_T} {i0 : Nat} {p1 : Int32} {p2 : Int32} {p3 : Int32} (hn : 144 ≤ n) (hi0 : i0 < 9) {z : mm_T} (h : f_X0_nameAll N n I i0 p1 p2 p3 = some z) : ct_m l G n yX0_nameAll cX0_nameAll 4 none ({ frames := 0, cells := 0, slots := 0, locals := 0 }) [.ref (cx_b G + ly_loc 0 i0), .int p1, .int p2, .int p3] I J (ct_qv G n z J) := by
  refine ct_en (by decide) (Nat.le_of_ble_eq_true rfl) ?_
  intro p e s m args below meth c ls X S hl
  have X : cx_ok G p s m args meth c cX0_nameAll 4 RX0 none := X
  have hl : lv_has ls 4 [(0, .ref (cx_b G + ly_loc 0 i0)), (1, .int p1), (2, .int p2), (3, .int p3)] := hl
  unfold f_X0_nameAll at h
  refine lv_aload_n X.1 X.2.1 dX0_nameAll_0 rfl (lv_at hl 0 rfl) ?_
  refine gf_X0_9 X S hi0 dX0_nameAll_1 ?_
  refine lv_iconst (v := 0) X.1 X.2.1 dX0_nameAll_4 (by decide) ?_
  refine lv_aload_n X.1 X.2.1 dX0_nameAll_5 rfl (lv_at hl 0 rfl) ?_
  refine gf_X0_51 X S hi0 dX0_nameAll_6 ?_
  refine as_10 X S hi0 (by decide) dX0_nameAll_9 (fun I_1 H locs eI_1 S => ?_)
  have h := pz_lt_e h eI_1
  refine lv_aload_n X.1 X.2.1 dX0_nameAll_10 rfl (lv_at hl 0 rfl) ?_
  refine gf_X0_9 X S hi0 dX0_nameAll_11 ?_
  refine lv_iconst (v := 1) X.1 X.2.1 dX0_nameAll_14 (by decide) ?_
  refine lv_iload_n X.1 X.2.1 dX0_nameAll_15 rfl (lv_at hl 1 rfl) ?_
  refine as_10 X S hi0 (by decide) dX0_nameAll_16 (fun I_2 H locs eI_2 S => ?_)
  have h := pz_lt_e h eI_2
  refine lv_aload_n X.1 X.2.1 dX0_nameAll_17 rfl (lv_at hl 0 rfl) ?_
  refine gf_X0_9 X S hi0 dX0_nameAll_18 ?_
  refine lv_iconst (v := 2) X.1 X.2.1 dX0_nameAll_21 (by decide) ?_
  refine lv_iload_n X.1 X.2.1 dX0_nameAll_22 rfl (lv_at hl 2 rfl) ?_
  refine as_10 X S hi0 (by decide) dX0_nameAll_23 (fun I_3 H locs eI_3 S => ?_)
  have h := pz_lt_e h eI_3
  refine lv_aload_n X.1 X.2.1 dX0_nameAll_24 rfl (lv_at hl 0 rfl) ?_
  refine gf_X0_9 X S hi0 dX0_nameAll_25 ?_
  refine lv_iconst (v := 3) X.1 X.2.1 dX0_nameAll_28 (by decide) ?_
  refine lv_iload_n X.1 X.2.1 dX0_nameAll_29 rfl (lv_at hl 3 rfl) ?_
  refine as_10 X S hi0 (by decide) dX0_nameAll_30 (fun I_4 H locs eI_4 S => ?_)
  have h := pz_lt_e h eI_4
  refine lv_aload_n X.1 X.2.1 dX0_nameAll_31 rfl (lv_at hl 0 rfl) ?_
  refine gf_X0_9 X S hi0 dX0_nameAll_32 ?_
  refine lv_iconst (v := 4) X.1 X.2.1 dX0_nameAll_35 (by decide) ?_
  refine lv_aload_n X.1 X.2.1 dX0_nameAll_36 rfl (lv_at hl 0 rfl) ?_
  refine gf_X0_60 X S hi0 dX0_nameAll_37 ?_
  refine as_10 X S hi0 (by decide) dX0_nameAll_40 (fun I_5 H locs eI_5 S => ?_)
  have h := pz_lt_e h eI_5
  refine lv_aload_n X.1 X.2.1 dX0_nameAll_41 rfl (lv_at hl 0 rfl) ?_
  refine gf_X0_9 X S hi0 dX0_nameAll_42 ?_
  refine lv_iconst (v := 5) X.1 X.2.1 dX0_nameAll_45 (by decide) ?_
  refine lv_aload_n X.1 X.2.1 dX0_nameAll_46 rfl (lv_at hl 0 rfl) ?_
  refine gf_X0_59 X S hi0 dX0_nameAll_47 ?_
  refine as_10 X S hi0 (by decide) dX0_nameAll_50 (fun I_6 H locs eI_6 S => ?_)
  have h := pz_lt_e h eI_6
  cases h
  exact r_vret X S dX0_nameAll_51
def f_X0_letLeave_L155 (N n : Nat) (i0 : Nat) (k4 : mm_T → Int32 → Int32 → Option (mm_T)) (I : mm_T) (a1 : Int32) (a2 : Int32) : Option (mm_T) := pz_lt (a2 + (1 : Int32)) fun x_22 => k4 I a1 x_22
set_option maxRecDepth 100000 in
set_option maxHeartbeats 4000000 in
theorem w_X0_letLeave_L155 {l : Launch} {G : cx_T} {p : Program} {e : Env} {s : State} {m : MethodId} {args : Array Value} {below : List Frame} {meth : Method} {c : Code} {N n : Nat} {J : mm_T} {i0 : Nat} (X : cx_ok G p s m args meth c cX0_letLeave 5 RX0 none) (hn : 144 ≤ n) (hi0 : i0 < 9) {k4 : mm_T → Int32 → Int32 → Option (mm_T)} {z : mm_T} (K4 : ∀ {I : mm_T} {a1 : Int32} {a2 : Int32} {H : Heap} {locs : List Loc} {ls : Array Slot}, k4 I a1 a2 = some z → st_ok G n I J s H locs → lv_has ls 5 [(0, .ref (cx_b G + ly_loc 0 i0)), (1, .int a1), (2, .int a2)] → W p l e ({ frames := 2, cells := 0, slots := 0, locals := 82 }) s m args below meth c H locs 0 0 (MQ below (ct_qv G n z J) args s 0 0 (cx_A G)) (F0 m 4 ls [])) {I : mm_T} {a1 : Int32} {a2 : Int32} {H : Heap} {locs : List Loc} {ls : Array Slot} (h : f_X0_letLeave_L155 N n i0 k4 I a1 a2 = some z) (S : st_ok G n I J s H locs) (hl : lv_has ls 5 [(0, .ref (cx_b G + ly_loc 0 i0)), (1, .int a1), (2, .int a2)]) : W p l e ({ frames := 2, cells := 0, slots := 0, locals := 82 }) s m args below meth c H locs 0 0 (MQ below (ct_qv G n z J) args s 0 0 (cx_A G)) (F0 m 155 ls []) := by
  unfold f_X0_letLeave_L155 at h
  obtain ⟨x_22, ex_22⟩ : ∃ y : Int32, y = (a2 + (1 : Int32)) := ⟨_, rfl⟩
  have h := pz_lt_e h ex_22
  refine lv_iinc (v := x_22) (lv' := [(2, .int x_22), (0, .ref (cx_b G + ly_loc 0 i0)), (1, .int a1)]) X.1 X.2.1 dX0_letLeave_155 hl (k := 2) rfl (by rw [ex_22]; rfl) (by decide) rfl (fun ls hl => ?_)
  refine lv_goto (tgt := 4) X.1 X.2.1 dX0_letLeave_158 (by decide) ?_
  exact K4 h S (lv_sub hl [1, 2, 0] rfl)
def f_X0_letLeave_L107 (N n : Nat) (i0 : Nat) (k4 : mm_T → Int32 → Int32 → Option (mm_T)) (I : mm_T) (a1 : Int32) (a2 : Int32) (a3 : Int32) (a4 : Int32) : Option (mm_T) := pz_gd (ix_in a2 8) <| pz_gd (ix_in a3 8) <| if a4 ≤ ((I 2 (8 * 0 + a2.toNatClampNeg) 0) + (I 13 i0 a3.toNatClampNeg)) then (f_X0_letLeave_L155 N n i0 k4 I a1 a2) else (pz_lt (mm_up I 0 i0 15 ((I 0 i0 15) &&& (((1 : Int32) <<< (a2 &&& 31)) ^^^ (-1 : Int32)))) fun I_20 => pz_lt (mm_up I_20 0 i0 13 ((I_20 0 i0 13) + (1 : Int32))) fun I_21 => f_X0_letLeave_L155 N n i0 k4 I_21 a1 a2)
set_option maxRecDepth 100000 in
set_option maxHeartbeats 4000000 in
theorem w_X0_letLeave_L107 {l : Launch} {G : cx_T} {p : Program} {e : Env} {s : State} {m : MethodId} {args : Array Value} {below : List Frame} {meth : Method} {c : Code} {N n : Nat} {J : mm_T} {i0 : Nat} (X : cx_ok G p s m args meth c cX0_letLeave 5 RX0 none) (hn : 144 ≤ n) (hi0 : i0 < 9) {k4 : mm_T → Int32 → Int32 → Option (mm_T)} {z : mm_T} (K4 : ∀ {I : mm_T} {a1 : Int32} {a2 : Int32} {H : Heap} {locs : List Loc} {ls : Array Slot}, k4 I a1 a2 = some z → st_ok G n I J s H locs → lv_has ls 5 [(0, .ref (cx_b G + ly_loc 0 i0)), (1, .int a1), (2, .int a2)] → W p l e ({ frames := 2, cells := 0, slots := 0, locals := 82 }) s m args below meth c H locs 0 0 (MQ below (ct_qv G n z J) args s 0 0 (cx_A G)) (F0 m 4 ls [])) {I : mm_T} {a1 : Int32} {a2 : Int32} {a3 : Int32} {a4 : Int32} {H : Heap} {locs : List Loc} {ls : Array Slot} (h : f_X0_letLeave_L107 N n i0 k4 I a1 a2 a3 a4 = some z) (S : st_ok G n I J s H locs) (hl : lv_has ls 5 [(0, .ref (cx_b G + ly_loc 0 i0)), (1, .int a1), (2, .int a2), (3, .int a3), (4, .int a4)]) : W p l e ({ frames := 2, cells := 0, slots := 0, locals := 82 }) s m args below meth c H locs 0 0 (MQ below (ct_qv G n z J) args s 0 0 (cx_A G)) (F0 m 107 ls []) := by
  unfold f_X0_letLeave_L107 at h
  refine lv_iload X.1 X.2.1 dX0_letLeave_107 (lv_at hl 4 rfl) ?_
  refine lv_aload_n X.1 X.2.1 dX0_letLeave_109 rfl (lv_at hl 0 rfl) ?_
  refine gf_X0_30 X S hi0 dX0_letLeave_110 ?_
  refine gf_X0_152 X S (by decide) dX0_letLeave_113 ?_
  refine lv_iload_n X.1 X.2.1 dX0_letLeave_116 rfl (lv_at hl 2 rfl) ?_
  obtain ⟨g_17, h⟩ := pz_gd_e h
  refine aa_16 X S (by decide) g_17 dX0_letLeave_117 ?_
  refine gf_X0_161 X S (el_16 (by decide) g_17) dX0_letLeave_118 ?_
  refine lv_aload_n X.1 X.2.1 dX0_letLeave_121 rfl (lv_at hl 0 rfl) ?_
  refine gf_X0_21 X S hi0 dX0_letLeave_122 ?_
  refine lv_iload_n X.1 X.2.1 dX0_letLeave_125 rfl (lv_at hl 3 rfl) ?_
  obtain ⟨g_18, h⟩ := pz_gd_e h
  refine al_13 X S hi0 g_18 dX0_letLeave_126 ?_
  refine lv_iadd X.1 X.2.1 dX0_letLeave_127 ?_
  refine lv_icmp_le (tgt := 155) X.1 X.2.1 dX0_letLeave_128 (by decide) (fun c_19 => ?_) (fun c_19 => ?_)
  · have h := pz_t c_19 h
    exact w_X0_letLeave_L155 X hn hi0 K4 h S (lv_sub hl [0, 1, 2] rfl)
  have h := pz_f c_19 h
  refine lv_aload_n X.1 X.2.1 dX0_letLeave_131 rfl (lv_at hl 0 rfl) ?_
  refine lv_dup X.1 X.2.1 dX0_letLeave_132 rfl ?_
  refine gf_X0_72 X S hi0 dX0_letLeave_133 ?_
  refine lv_iconst (v := 1) X.1 X.2.1 dX0_letLeave_136 (by decide) ?_
  refine lv_iload_n X.1 X.2.1 dX0_letLeave_137 rfl (lv_at hl 2 rfl) ?_
  refine lv_ishl X.1 X.2.1 dX0_letLeave_138 ?_
  refine lv_iconst (v := -1) X.1 X.2.1 dX0_letLeave_139 (by decide) ?_
  refine lv_ixor X.1 X.2.1 dX0_letLeave_140 ?_
  refine lv_iand X.1 X.2.1 dX0_letLeave_141 ?_
  refine pf_X0_72 X S hi0 dX0_letLeave_142 (fun I_20 H locs eI_20 S => ?_)
  have h := pz_lt_e h eI_20
  refine lv_aload_n X.1 X.2.1 dX0_letLeave_145 rfl (lv_at hl 0 rfl) ?_
  refine lv_dup X.1 X.2.1 dX0_letLeave_146 rfl ?_
  refine gf_X0_63 X S hi0 dX0_letLeave_147 ?_
  refine lv_iconst (v := 1) X.1 X.2.1 dX0_letLeave_150 (by decide) ?_
  refine lv_iadd X.1 X.2.1 dX0_letLeave_151 ?_
  refine pf_X0_63 X S hi0 dX0_letLeave_152 (fun I_21 H locs eI_21 S => ?_)
  have h := pz_lt_e h eI_21
  exact w_X0_letLeave_L155 X hn hi0 K4 h S (lv_sub hl [0, 1, 2] rfl)
def f_X0_letLeave_L4 (N n : Nat) (i0 : Nat) : Nat → mm_T → Int32 → Int32 → Option (mm_T)
  | 0, _, _, _ => none
  | cnt + 1, I, a1, a2 => if (I 1 0 2) ≤ a2 then (some I) else (if (((I 0 i0 15) >>> (a2 &&& 31)) &&& (1 : Int32)) = 0 then (f_X0_letLeave_L155 N n i0 (f_X0_letLeave_L4 N n i0 cnt) I a1 a2) else (pz_gd (ix_in a2 8) <| pz_lt (I 2 (8 * 0 + a2.toNatClampNeg) 1) fun x_4 => pz_gd (ix_in x_4 8) <| pz_lt ((I 0 i0 10) - (I 11 i0 x_4.toNatClampNeg)) fun x_6 => if ((a1 >>> (x_4 &&& 31)) &&& (1 : Int32)) = 0 then (pz_gd (ix_in x_4 8) <| pz_bd (f_X0_nameAll N n I i0 x_6 (I 12 i0 x_4.toNatClampNeg) (0 : Int32)) fun q_9 => pz_gd (decide (¬ (q_9 0 i0 1) = -1)) <| pz_gd (decide (3 * (q_9 0 i0 1).toNatClampNeg + 144 ≤ n)) <| pz_bd (f_X7_worth N n q_9 (q_9 0 i0 1) (0 : Int32) i0) fun q_12 => pz_bd (f_X8_within N q_12.2 (-99 : Int32) (99 : Int32)) fun q_13 => pz_gd (ix_in x_4 8) <| pz_lt (mm_up q_12.1 13 i0 x_4.toNatClampNeg q_13) fun I_15 => pz_lt (a1 ||| ((1 : Int32) <<< (x_4 &&& 31))) fun x_16 => f_X0_letLeave_L107 N n i0 (f_X0_letLeave_L4 N n i0 cnt) I_15 x_16 a2 x_4 x_6) else (f_X0_letLeave_L107 N n i0 (f_X0_letLeave_L4 N n i0 cnt) I a1 a2 x_4 x_6)))
set_option maxRecDepth 100000 in
set_option maxHeartbeats 4000000 in
theorem w_X0_letLeave_L4 {l : Launch} {G : cx_T} {p : Program} {e : Env} {s : State} {m : MethodId} {args : Array Value} {below : List Frame} {meth : Method} {c : Code} {N n : Nat} {J : mm_T} {i0 : Nat} (X : cx_ok G p s m args meth c cX0_letLeave 5 RX0 none) (hn : 144 ≤ n) (hi0 : i0 < 9) {z : mm_T} : ∀ (cnt : Nat) {I : mm_T} {a1 : Int32} {a2 : Int32} {H : Heap} {locs : List Loc} {ls : Array Slot} , f_X0_letLeave_L4 N n i0 cnt I a1 a2 = some z → st_ok G n I J s H locs → lv_has ls 5 [(0, .ref (cx_b G + ly_loc 0 i0)), (1, .int a1), (2, .int a2)] → W p l e ({ frames := 2, cells := 0, slots := 0, locals := 82 }) s m args below meth c H locs 0 0 (MQ below (ct_qv G n z J) args s 0 0 (cx_A G)) (F0 m 4 ls []) := by
  intro cnt
  induction cnt with
  | zero =>
    intro I a1 a2 H locs ls h
    rw [f_X0_letLeave_L4] at h
    cases h
  | succ cnt ih =>
    intro I a1 a2 H locs ls h S hl
    rw [f_X0_letLeave_L4] at h
    refine lv_iload_n X.1 X.2.1 dX0_letLeave_4 rfl (lv_at hl 2 rfl) ?_
    refine lv_aload_n X.1 X.2.1 dX0_letLeave_5 rfl (lv_at hl 0 rfl) ?_
    refine gf_X0_30 X S hi0 dX0_letLeave_6 ?_
    refine gf_X0_69 X S (by decide) dX0_letLeave_9 ?_
    refine lv_icmp_ge (tgt := 161) X.1 X.2.1 dX0_letLeave_12 (by decide) (fun c_1 => ?_) (fun c_1 => ?_)
    · have h := pz_t c_1 h
      cases h
      exact r_vret X S dX0_letLeave_161
    have h := pz_f c_1 h
    refine lv_aload_n X.1 X.2.1 dX0_letLeave_15 rfl (lv_at hl 0 rfl) ?_
    refine gf_X0_72 X S hi0 dX0_letLeave_16 ?_
    refine lv_iload_n X.1 X.2.1 dX0_letLeave_19 rfl (lv_at hl 2 rfl) ?_
    refine lv_ishr X.1 X.2.1 dX0_letLeave_20 ?_
    refine lv_iconst (v := 1) X.1 X.2.1 dX0_letLeave_21 (by decide) ?_
    refine lv_iand X.1 X.2.1 dX0_letLeave_22 ?_
    refine lv_if_ne (tgt := 29) X.1 X.2.1 dX0_letLeave_23 (by decide) (fun c_2 => ?_) (fun c_2 => ?_)
    · have h := pz_f c_2 h
      refine lv_aload_n X.1 X.2.1 dX0_letLeave_29 rfl (lv_at hl 0 rfl) ?_
      refine gf_X0_30 X S hi0 dX0_letLeave_30 ?_
      refine gf_X0_152 X S (by decide) dX0_letLeave_33 ?_
      refine lv_iload_n X.1 X.2.1 dX0_letLeave_36 rfl (lv_at hl 2 rfl) ?_
      obtain ⟨g_3, h⟩ := pz_gd_e h
      refine aa_16 X S (by decide) g_3 dX0_letLeave_37 ?_
      refine gf_X0_156 X S (el_16 (by decide) g_3) dX0_letLeave_38 ?_
      refine lv_topi (fun x_4 ex_4 => ?_)
      have h := pz_lt_e h ex_4
      refine lv_istore_n (lv' := [(3, .int x_4), (0, .ref (cx_b G + ly_loc 0 i0)), (1, .int a1), (2, .int a2)]) X.1 X.2.1 dX0_letLeave_41 rfl hl (by decide) rfl (fun ls hl => ?_)
      refine lv_aload_n X.1 X.2.1 dX0_letLeave_42 rfl (lv_at hl 1 rfl) ?_
      refine gf_X0_51 X S hi0 dX0_letLeave_43 ?_
      refine lv_aload_n X.1 X.2.1 dX0_letLeave_46 rfl (lv_at hl 1 rfl) ?_
      refine gf_X0_15 X S hi0 dX0_letLeave_47 ?_
      refine lv_iload_n X.1 X.2.1 dX0_letLeave_50 rfl (lv_at hl 0 rfl) ?_
      obtain ⟨g_5, h⟩ := pz_gd_e h
      refine al_11 X S hi0 g_5 dX0_letLeave_51 ?_
      refine lv_isub X.1 X.2.1 dX0_letLeave_52 ?_
      refine lv_topi (fun x_6 ex_6 => ?_)
      have h := pz_lt_e h ex_6
      refine lv_istore (lv' := [(4, .int x_6), (3, .int x_4), (0, .ref (cx_b G + ly_loc 0 i0)), (1, .int a1), (2, .int a2)]) X.1 X.2.1 dX0_letLeave_53 hl (by decide) rfl (fun ls hl => ?_)
      refine lv_iload_n X.1 X.2.1 dX0_letLeave_55 rfl (lv_at hl 3 rfl) ?_
      refine lv_iload_n X.1 X.2.1 dX0_letLeave_56 rfl (lv_at hl 1 rfl) ?_
      refine lv_ishr X.1 X.2.1 dX0_letLeave_57 ?_
      refine lv_iconst (v := 1) X.1 X.2.1 dX0_letLeave_58 (by decide) ?_
      refine lv_iand X.1 X.2.1 dX0_letLeave_59 ?_
      refine lv_if_ne (tgt := 107) X.1 X.2.1 dX0_letLeave_60 (by decide) (fun c_7 => ?_) (fun c_7 => ?_)
      · have h := pz_f c_7 h
        exact w_X0_letLeave_L107 X hn hi0 ih h S (lv_sub hl [2, 3, 4, 1, 0] rfl)
      have h := pz_t c_7 h
      refine lv_aload_n X.1 X.2.1 dX0_letLeave_63 rfl (lv_at hl 2 rfl) ?_
      refine lv_iload X.1 X.2.1 dX0_letLeave_64 (lv_at hl 0 rfl) ?_
      refine lv_aload_n X.1 X.2.1 dX0_letLeave_66 rfl (lv_at hl 2 rfl) ?_
      refine gf_X0_18 X S hi0 dX0_letLeave_67 ?_
      refine lv_iload_n X.1 X.2.1 dX0_letLeave_70 rfl (lv_at hl 1 rfl) ?_
      obtain ⟨g_8, h⟩ := pz_gd_e h
      refine al_12 X S hi0 g_8 dX0_letLeave_71 ?_
      refine lv_iconst (v := 0) X.1 X.2.1 dX0_letLeave_72 (by decide) ?_
      obtain ⟨q_9, eq_9, h⟩ := pz_bd_e h
      refine r_Vv X S (c_X0_nameAll hn hi0 eq_9) gd_X0_125 ⟨rfl, ny_X0_nameAll⟩ ⟨rfl, rfl⟩ ⟨Nat.le_of_ble_eq_true rfl, Nat.le_of_ble_eq_true rfl⟩ (r_recv X S (ly_ok_0 hi0 S.2.2.2) rfl rfl) rfl rfl hl.1 (Nat.le_of_ble_eq_true rfl) dX0_letLeave_73 (fun H locs S => ?_)
      refine lv_aload_n X.1 X.2.1 dX0_letLeave_76 rfl (lv_at hl 2 rfl) ?_
      refine gf_X0_21 X S hi0 dX0_letLeave_77 ?_
      refine lv_iload_n X.1 X.2.1 dX0_letLeave_80 rfl (lv_at hl 1 rfl) ?_
      refine lv_aload_n X.1 X.2.1 dX0_letLeave_81 rfl (lv_at hl 2 rfl) ?_
      obtain ⟨g_10, h⟩ := pz_gd_e h
      refine gf_X0_34 X S hi0 dX0_letLeave_82 ?_
      rw [ly_tx_ne (of_decide_eq_true g_10)]
      refine lv_iconst (v := 0) X.1 X.2.1 dX0_letLeave_85 (by decide) ?_
      refine lv_aload_n X.1 X.2.1 dX0_letLeave_86 rfl (lv_at hl 2 rfl) ?_
      refine gf_X0_9 X S hi0 dX0_letLeave_87 ?_
      obtain ⟨g_11, h⟩ := pz_gd_e h
      obtain ⟨q_12, eq_12, h⟩ := pz_bd_e h
      refine r_Vi X S (c_X7_worth hn (of_decide_eq_true g_11) hi0 eq_12) gd_X0_131 ⟨rfl, ny_X7_worth⟩ ⟨rfl, rfl⟩ ⟨Nat.le_of_ble_eq_true rfl, Nat.le_of_ble_eq_true rfl⟩ (r_recv X S (ly_ok_7 (of_decide_eq_true g_11)) rfl rfl) rfl rfl hl.1 (Nat.le_of_ble_eq_true rfl) dX0_letLeave_90 (fun H locs S => ?_)
      refine lv_bipush (v := -99) X.1 X.2.1 dX0_letLeave_93 (by decide) ?_
      refine lv_bipush (v := 99) X.1 X.2.1 dX0_letLeave_95 (by decide) ?_
      obtain ⟨q_13, eq_13, h⟩ := pz_bd_e h
      refine r_SiN X S (c_X8_within eq_13) ml_X0_118 gs_X0_118.1 gs_X0_118.2 cw_X8_within ny_X8_within ⟨rfl, rfl⟩ ⟨Nat.le_of_ble_eq_true rfl, Nat.le_of_ble_eq_true rfl⟩ rfl rfl hl.1 (Nat.le_of_ble_eq_true rfl) dX0_letLeave_97 (fun H locs S => ?_)
      obtain ⟨g_14, h⟩ := pz_gd_e h
      refine as_13 X S hi0 g_14 dX0_letLeave_100 (fun I_15 H locs eI_15 S => ?_)
      have h := pz_lt_e h eI_15
      refine lv_iload_n X.1 X.2.1 dX0_letLeave_101 rfl (lv_at hl 3 rfl) ?_
      refine lv_iconst (v := 1) X.1 X.2.1 dX0_letLeave_102 (by decide) ?_
      refine lv_iload_n X.1 X.2.1 dX0_letLeave_103 rfl (lv_at hl 1 rfl) ?_
      refine lv_ishl X.1 X.2.1 dX0_letLeave_104 ?_
      refine lv_ior X.1 X.2.1 dX0_letLeave_105 ?_
      refine lv_topi (fun x_16 ex_16 => ?_)
      have h := pz_lt_e h ex_16
      refine lv_istore_n (lv' := [(1, .int x_16), (4, .int x_6), (3, .int x_4), (0, .ref (cx_b G + ly_loc 0 i0)), (2, .int a2)]) X.1 X.2.1 dX0_letLeave_106 rfl hl (by decide) rfl (fun ls hl => ?_)
      exact w_X0_letLeave_L107 X hn hi0 ih h S (lv_sub hl [3, 0, 4, 2, 1] rfl)
    have h := pz_t c_2 h
    refine lv_goto (tgt := 155) X.1 X.2.1 dX0_letLeave_26 (by decide) ?_
    exact w_X0_letLeave_L155 X hn hi0 ih h S (lv_sub hl [0, 1, 2] rfl)
def f_X0_letLeave (N n : Nat) (I : mm_T) (i0 : Nat) : Option (mm_T) := f_X0_letLeave_L4 N n i0 N I (0 : Int32) (0 : Int32)
set_option maxRecDepth 100000 in
set_option maxHeartbeats 4000000 in
theorem c_X0_letLeave {l : Launch} {G : cx_T} {N n : Nat} {I J : mm_T} {i0 : Nat} (hn : 144 ≤ n) (hi0 : i0 < 9) {z : mm_T} (h : f_X0_letLeave N n I i0 = some z) : ct_m l G n yX0_letLeave cX0_letLeave 5 none ({ frames := 2, cells := 0, slots := 0, locals := 82 }) [.ref (cx_b G + ly_loc 0 i0)] I J (ct_qv G n z J) := by
  refine ct_en (by decide) (Nat.le_of_ble_eq_true rfl) ?_
  intro p e s m args below meth c ls X S hl
  have X : cx_ok G p s m args meth c cX0_letLeave 5 RX0 none := X
  have hl : lv_has ls 5 [(0, .ref (cx_b G + ly_loc 0 i0))] := hl
  unfold f_X0_letLeave at h
  refine lv_iconst (v := 0) X.1 X.2.1 dX0_letLeave_0 (by decide) ?_
  refine lv_istore_n (lv' := [(1, .int (0 : Int32)), (0, .ref (cx_b G + ly_loc 0 i0))]) X.1 X.2.1 dX0_letLeave_1 rfl hl (by decide) rfl (fun ls hl => ?_)
  refine lv_iconst (v := 0) X.1 X.2.1 dX0_letLeave_2 (by decide) ?_
  refine lv_istore_n (lv' := [(2, .int (0 : Int32)), (1, .int (0 : Int32)), (0, .ref (cx_b G + ly_loc 0 i0))]) X.1 X.2.1 dX0_letLeave_3 rfl hl (by decide) rfl (fun ls hl => ?_)
  exact w_X0_letLeave_L4 X hn hi0 N h S (lv_sub hl [2, 1, 0] rfl)
def f_X0_callSlip (N n : Nat) (I : mm_T) (i0 : Nat) (p1 : Int32) : Option (mm_T) := pz_bd (f_X1_hasSlip N n I 0 p1) fun q_1 => if q_1 = 0 then (some I) else (pz_bd (f_X0_wasCalled N n I i0 p1) fun q_3 => if q_3 = 0 then (if (I 0 i0 7) < (7 : Int32) then (pz_lt (mm_up I 0 i0 9 ((I 0 i0 9) ||| ((1 : Int32) <<< (p1 &&& 31)))) fun I_6 => pz_gd (ix_in (I_6 0 i0 7) 7) <| pz_lt (mm_up I_6 14 i0 (I_6 0 i0 7).toNatClampNeg p1) fun I_8 => pz_lt (mm_up I_8 0 i0 7 ((I_8 0 i0 7) + (1 : Int32))) fun I_9 => pz_bd (f_X0_wouldBeSung N n I_9 i0 p1) fun q_10 => if q_10 = 0 then (some I_9) else (pz_gd (ix_in p1 7) <| pz_bd (f_X1_groupOf N n I_9 0 (7 * 0 + p1.toNatClampNeg)) fun q_13 => pz_gd (ix_in p1 7) <| pz_lt (mm_up I_9 15 i0 p1.toNatClampNeg (I_9 0 i0 10)) fun I_15 => pz_lt (mm_up I_15 0 i0 10 ((I_15 0 i0 10) + (I_15 6 (7 * 0 + p1.toNatClampNeg) 2))) fun I_16 => pz_bd (f_X6_moves N n I_16 (7 * 0 + p1.toNatClampNeg) (I_16 0 i0 11)) fun q_17 => pz_bd (f_X8_within N ((I_16 0 i0 11) + q_17) (-99 : Int32) (99 : Int32)) fun q_18 => pz_lt (mm_up I_16 0 i0 11 q_18) fun I_19 => pz_gd (ix_in q_13 8) <| pz_lt (mm_up I_19 11 i0 q_13.toNatClampNeg (I_19 0 i0 10)) fun I_21 => pz_gd (ix_in q_13 8) <| pz_gd (ix_in q_13 8) <| pz_lt (mm_up I_21 12 i0 q_13.toNatClampNeg ((I_21 12 i0 q_13.toNatClampNeg) + (1 : Int32))) fun I_24 => pz_lt (mm_up I_24 0 i0 14 ((I_24 0 i0 14) + (1 : Int32))) fun I_25 => pz_bd (f_X0_nameAll N n I_25 i0 (0 : Int32) (0 : Int32) (I_25 6 (7 * 0 + p1.toNatClampNeg) 0)) fun q_26 => pz_gd (decide (¬ (q_26 0 i0 1) = -1)) <| pz_gd (decide (3 * (q_26 0 i0 1).toNatClampNeg + 144 ≤ n)) <| pz_bd (f_X7_worth N n q_26 (q_26 0 i0 1) (1 : Int32) i0) fun q_29 => pz_bd (f_X8_within N q_29.2 (0 : Int32) (99 : Int32)) fun q_30 => pz_bd (f_J6_bitCount_0f7a4 N (q_29.1 0 i0 15)) fun q_31 => pz_bd (f_X6_thirst N n q_29.1 (7 * 0 + p1.toNatClampNeg) q_31) fun q_32 => pz_lt (mm_up q_29.1 0 i0 12 ((q_29.1 0 i0 12) + ((if (0 : Int32) < q_32 then q_32 else (0 : Int32)) * q_30))) fun I_33 => pz_bd (f_X0_letLeave N n I_33 i0) fun q_34 => some q_34)) else (some I)) else (some I))
set_option maxRecDepth 100000 in
set_option maxHeartbeats 4000000 in
theorem c_X0_callSlip {l : Launch} {G : cx_T} {N n : Nat} {I J : mm_T} {i0 : Nat} {p1 : Int32} (hn : 144 ≤ n) (hi0 : i0 < 9) {z : mm_T} (h : f_X0_callSlip N n I i0 p1 = some z) : ct_m l G n yX0_callSlip cX0_callSlip 5 none ({ frames := 3, cells := 0, slots := 0, locals := 106 }) [.ref (cx_b G + ly_loc 0 i0), .int p1] I J (ct_qv G n z J) := by
  refine ct_en (by decide) (Nat.le_of_ble_eq_true rfl) ?_
  intro p e s m args below meth c ls X S hl
  have X : cx_ok G p s m args meth c cX0_callSlip 5 RX0 none := X
  have hl : lv_has ls 5 [(0, .ref (cx_b G + ly_loc 0 i0)), (1, .int p1)] := hl
  unfold f_X0_callSlip at h
  refine lv_aload_n X.1 X.2.1 dX0_callSlip_0 rfl (lv_at hl 0 rfl) ?_
  refine gf_X0_30 X S hi0 dX0_callSlip_1 ?_
  refine lv_iload_n X.1 X.2.1 dX0_callSlip_4 rfl (lv_at hl 1 rfl) ?_
  obtain ⟨q_1, eq_1, h⟩ := pz_bd_e h
  refine r_Vi X S (c_X1_hasSlip hn (by decide) eq_1) gd_X0_85 ⟨rfl, ny_X1_hasSlip⟩ ⟨rfl, rfl⟩ ⟨Nat.le_of_ble_eq_true rfl, Nat.le_of_ble_eq_true rfl⟩ (r_recv X S (ly_ok_1 (by decide) S.2.2.2) rfl rfl) rfl rfl hl.1 (Nat.le_of_ble_eq_true rfl) dX0_callSlip_5 (fun H locs S => ?_)
  refine lv_if_eq (tgt := 28) X.1 X.2.1 dX0_callSlip_8 (by decide) (fun c_2 => ?_) (fun c_2 => ?_)
  · have h := pz_t c_2 h
    cases h
    exact r_vret X S dX0_callSlip_28
  have h := pz_f c_2 h
  refine lv_aload_n X.1 X.2.1 dX0_callSlip_11 rfl (lv_at hl 0 rfl) ?_
  refine lv_iload_n X.1 X.2.1 dX0_callSlip_12 rfl (lv_at hl 1 rfl) ?_
  obtain ⟨q_3, eq_3, h⟩ := pz_bd_e h
  refine r_Vi X S (c_X0_wasCalled hn hi0 eq_3) gd_X0_104 ⟨rfl, ny_X0_wasCalled⟩ ⟨rfl, rfl⟩ ⟨Nat.le_of_ble_eq_true rfl, Nat.le_of_ble_eq_true rfl⟩ (r_recv X S (ly_ok_0 hi0 S.2.2.2) rfl rfl) rfl rfl hl.1 (Nat.le_of_ble_eq_true rfl) dX0_callSlip_13 (fun H locs S => ?_)
  refine lv_if_ne (tgt := 28) X.1 X.2.1 dX0_callSlip_16 (by decide) (fun c_4 => ?_) (fun c_4 => ?_)
  · have h := pz_f c_4 h
    cases h
    exact r_vret X S dX0_callSlip_28
  have h := pz_t c_4 h
  refine lv_aload_n X.1 X.2.1 dX0_callSlip_19 rfl (lv_at hl 0 rfl) ?_
  refine gf_X0_44 X S hi0 dX0_callSlip_20 ?_
  refine lv_bipush (v := 7) X.1 X.2.1 dX0_callSlip_23 (by decide) ?_
  refine lv_icmp_lt (tgt := 29) X.1 X.2.1 dX0_callSlip_25 (by decide) (fun c_5 => ?_) (fun c_5 => ?_)
  · have h := pz_t c_5 h
    refine lv_aload_n X.1 X.2.1 dX0_callSlip_29 rfl (lv_at hl 0 rfl) ?_
    refine lv_dup X.1 X.2.1 dX0_callSlip_30 rfl ?_
    refine gf_X0_48 X S hi0 dX0_callSlip_31 ?_
    refine lv_iconst (v := 1) X.1 X.2.1 dX0_callSlip_34 (by decide) ?_
    refine lv_iload_n X.1 X.2.1 dX0_callSlip_35 rfl (lv_at hl 1 rfl) ?_
    refine lv_ishl X.1 X.2.1 dX0_callSlip_36 ?_
    refine lv_ior X.1 X.2.1 dX0_callSlip_37 ?_
    refine pf_X0_48 X S hi0 dX0_callSlip_38 (fun I_6 H locs eI_6 S => ?_)
    have h := pz_lt_e h eI_6
    refine lv_aload_n X.1 X.2.1 dX0_callSlip_41 rfl (lv_at hl 0 rfl) ?_
    refine gf_X0_24 X S hi0 dX0_callSlip_42 ?_
    refine lv_aload_n X.1 X.2.1 dX0_callSlip_45 rfl (lv_at hl 0 rfl) ?_
    refine gf_X0_44 X S hi0 dX0_callSlip_46 ?_
    refine lv_iload_n X.1 X.2.1 dX0_callSlip_49 rfl (lv_at hl 1 rfl) ?_
    obtain ⟨g_7, h⟩ := pz_gd_e h
    refine as_14 X S hi0 g_7 dX0_callSlip_50 (fun I_8 H locs eI_8 S => ?_)
    have h := pz_lt_e h eI_8
    refine lv_aload_n X.1 X.2.1 dX0_callSlip_51 rfl (lv_at hl 0 rfl) ?_
    refine lv_dup X.1 X.2.1 dX0_callSlip_52 rfl ?_
    refine gf_X0_44 X S hi0 dX0_callSlip_53 ?_
    refine lv_iconst (v := 1) X.1 X.2.1 dX0_callSlip_56 (by decide) ?_
    refine lv_iadd X.1 X.2.1 dX0_callSlip_57 ?_
    refine pf_X0_44 X S hi0 dX0_callSlip_58 (fun I_9 H locs eI_9 S => ?_)
    have h := pz_lt_e h eI_9
    refine lv_aload_n X.1 X.2.1 dX0_callSlip_61 rfl (lv_at hl 0 rfl) ?_
    refine lv_iload_n X.1 X.2.1 dX0_callSlip_62 rfl (lv_at hl 1 rfl) ?_
    obtain ⟨q_10, eq_10, h⟩ := pz_bd_e h
    refine r_Vi X S (c_X0_wouldBeSung hn hi0 eq_10) gd_X0_107 ⟨rfl, ny_X0_wouldBeSung⟩ ⟨rfl, rfl⟩ ⟨Nat.le_of_ble_eq_true rfl, Nat.le_of_ble_eq_true rfl⟩ (r_recv X S (ly_ok_0 hi0 S.2.2.2) rfl rfl) rfl rfl hl.1 (Nat.le_of_ble_eq_true rfl) dX0_callSlip_63 (fun H locs S => ?_)
    refine lv_if_ne (tgt := 70) X.1 X.2.1 dX0_callSlip_66 (by decide) (fun c_11 => ?_) (fun c_11 => ?_)
    · have h := pz_f c_11 h
      refine lv_aload_n X.1 X.2.1 dX0_callSlip_70 rfl (lv_at hl 0 rfl) ?_
      refine gf_X0_30 X S hi0 dX0_callSlip_71 ?_
      refine gf_X0_89 X S (by decide) dX0_callSlip_74 ?_
      refine lv_iload_n X.1 X.2.1 dX0_callSlip_77 rfl (lv_at hl 1 rfl) ?_
      obtain ⟨g_12, h⟩ := pz_gd_e h
      refine aa_17 X S (by decide) g_12 dX0_callSlip_78 ?_
      refine lv_astore_n (lv' := [(2, .ref (cx_b G + ly_loc 6 (7 * 0 + p1.toNatClampNeg))), (0, .ref (cx_b G + ly_loc 0 i0)), (1, .int p1)]) X.1 X.2.1 dX0_callSlip_79 rfl hl (by decide) rfl (fun ls hl => ?_)
      refine lv_aload_n X.1 X.2.1 dX0_callSlip_80 rfl (lv_at hl 1 rfl) ?_
      refine gf_X0_30 X S hi0 dX0_callSlip_81 ?_
      refine lv_aload_n X.1 X.2.1 dX0_callSlip_84 rfl (lv_at hl 0 rfl) ?_
      obtain ⟨q_13, eq_13, h⟩ := pz_bd_e h
      refine r_Vi X S (c_X1_groupOf hn (by decide) (el_17 (by decide) g_12) eq_13) gd_X0_110 ⟨rfl, ny_X1_groupOf⟩ ⟨rfl, rfl⟩ ⟨Nat.le_of_ble_eq_true rfl, Nat.le_of_ble_eq_true rfl⟩ (r_recv X S (ly_ok_1 (by decide) S.2.2.2) rfl rfl) rfl rfl hl.1 (Nat.le_of_ble_eq_true rfl) dX0_callSlip_85 (fun H locs S => ?_)
      refine lv_istore_n (lv' := [(3, .int q_13), (2, .ref (cx_b G + ly_loc 6 (7 * 0 + p1.toNatClampNeg))), (0, .ref (cx_b G + ly_loc 0 i0)), (1, .int p1)]) X.1 X.2.1 dX0_callSlip_88 rfl hl (by decide) rfl (fun ls hl => ?_)
      refine lv_aload_n X.1 X.2.1 dX0_callSlip_89 rfl (lv_at hl 2 rfl) ?_
      refine gf_X0_27 X S hi0 dX0_callSlip_90 ?_
      refine lv_iload_n X.1 X.2.1 dX0_callSlip_93 rfl (lv_at hl 3 rfl) ?_
      refine lv_aload_n X.1 X.2.1 dX0_callSlip_94 rfl (lv_at hl 2 rfl) ?_
      refine gf_X0_51 X S hi0 dX0_callSlip_95 ?_
      obtain ⟨g_14, h⟩ := pz_gd_e h
      refine as_15 X S hi0 g_14 dX0_callSlip_98 (fun I_15 H locs eI_15 S => ?_)
      have h := pz_lt_e h eI_15
      refine lv_aload_n X.1 X.2.1 dX0_callSlip_99 rfl (lv_at hl 2 rfl) ?_
      refine lv_dup X.1 X.2.1 dX0_callSlip_100 rfl ?_
      refine gf_X0_51 X S hi0 dX0_callSlip_101 ?_
      refine lv_aload_n X.1 X.2.1 dX0_callSlip_104 rfl (lv_at hl 1 rfl) ?_
      refine gf_X0_98 X S (el_17 (by decide) g_12) dX0_callSlip_105 ?_
      refine lv_iadd X.1 X.2.1 dX0_callSlip_108 ?_
      refine pf_X0_51 X S hi0 dX0_callSlip_109 (fun I_16 H locs eI_16 S => ?_)
      have h := pz_lt_e h eI_16
      refine lv_aload_n X.1 X.2.1 dX0_callSlip_112 rfl (lv_at hl 2 rfl) ?_
      refine lv_aload_n X.1 X.2.1 dX0_callSlip_113 rfl (lv_at hl 2 rfl) ?_
      refine gf_X0_59 X S hi0 dX0_callSlip_114 ?_
      refine lv_aload_n X.1 X.2.1 dX0_callSlip_117 rfl (lv_at hl 1 rfl) ?_
      refine lv_aload_n X.1 X.2.1 dX0_callSlip_118 rfl (lv_at hl 2 rfl) ?_
      refine gf_X0_59 X S hi0 dX0_callSlip_119 ?_
      obtain ⟨q_17, eq_17, h⟩ := pz_bd_e h
      refine r_Vi X S (c_X6_moves hn (el_17 (by decide) g_12) eq_17) gd_X0_114 ⟨rfl, ny_X6_moves⟩ ⟨rfl, rfl⟩ ⟨Nat.le_of_ble_eq_true rfl, Nat.le_of_ble_eq_true rfl⟩ (r_recv X S (ly_ok_6 (el_17 (by decide) g_12) S.2.2.2) rfl rfl) rfl rfl hl.1 (Nat.le_of_ble_eq_true rfl) dX0_callSlip_122 (fun H locs S => ?_)
      refine lv_iadd X.1 X.2.1 dX0_callSlip_125 ?_
      refine lv_bipush (v := -99) X.1 X.2.1 dX0_callSlip_126 (by decide) ?_
      refine lv_bipush (v := 99) X.1 X.2.1 dX0_callSlip_128 (by decide) ?_
      obtain ⟨q_18, eq_18, h⟩ := pz_bd_e h
      refine r_SiN X S (c_X8_within eq_18) ml_X0_118 gs_X0_118.1 gs_X0_118.2 cw_X8_within ny_X8_within ⟨rfl, rfl⟩ ⟨Nat.le_of_ble_eq_true rfl, Nat.le_of_ble_eq_true rfl⟩ rfl rfl hl.1 (Nat.le_of_ble_eq_true rfl) dX0_callSlip_130 (fun H locs S => ?_)
      refine pf_X0_59 X S hi0 dX0_callSlip_133 (fun I_19 H locs eI_19 S => ?_)
      have h := pz_lt_e h eI_19
      refine lv_aload_n X.1 X.2.1 dX0_callSlip_136 rfl (lv_at hl 2 rfl) ?_
      refine gf_X0_15 X S hi0 dX0_callSlip_137 ?_
      refine lv_iload_n X.1 X.2.1 dX0_callSlip_140 rfl (lv_at hl 0 rfl) ?_
      refine lv_aload_n X.1 X.2.1 dX0_callSlip_141 rfl (lv_at hl 2 rfl) ?_
      refine gf_X0_51 X S hi0 dX0_callSlip_142 ?_
      obtain ⟨g_20, h⟩ := pz_gd_e h
      refine as_11 X S hi0 g_20 dX0_callSlip_145 (fun I_21 H locs eI_21 S => ?_)
      have h := pz_lt_e h eI_21
      refine lv_aload_n X.1 X.2.1 dX0_callSlip_146 rfl (lv_at hl 2 rfl) ?_
      refine gf_X0_18 X S hi0 dX0_callSlip_147 ?_
      refine lv_iload_n X.1 X.2.1 dX0_callSlip_150 rfl (lv_at hl 0 rfl) ?_
      refine lv_dup2_11 X.1 X.2.1 dX0_callSlip_151 rfl rfl ?_
      obtain ⟨g_22, h⟩ := pz_gd_e h
      refine al_12 X S hi0 g_22 dX0_callSlip_152 ?_
      refine lv_iconst (v := 1) X.1 X.2.1 dX0_callSlip_153 (by decide) ?_
      refine lv_iadd X.1 X.2.1 dX0_callSlip_154 ?_
      obtain ⟨g_23, h⟩ := pz_gd_e h
      refine as_12 X S hi0 g_23 dX0_callSlip_155 (fun I_24 H locs eI_24 S => ?_)
      have h := pz_lt_e h eI_24
      refine lv_aload_n X.1 X.2.1 dX0_callSlip_156 rfl (lv_at hl 2 rfl) ?_
      refine lv_dup X.1 X.2.1 dX0_callSlip_157 rfl ?_
      refine gf_X0_66 X S hi0 dX0_callSlip_158 ?_
      refine lv_iconst (v := 1) X.1 X.2.1 dX0_callSlip_161 (by decide) ?_
      refine lv_iadd X.1 X.2.1 dX0_callSlip_162 ?_
      refine pf_X0_66 X S hi0 dX0_callSlip_163 (fun I_25 H locs eI_25 S => ?_)
      have h := pz_lt_e h eI_25
      refine lv_aload_n X.1 X.2.1 dX0_callSlip_166 rfl (lv_at hl 2 rfl) ?_
      refine lv_iconst (v := 0) X.1 X.2.1 dX0_callSlip_167 (by decide) ?_
      refine lv_iconst (v := 0) X.1 X.2.1 dX0_callSlip_168 (by decide) ?_
      refine lv_aload_n X.1 X.2.1 dX0_callSlip_169 rfl (lv_at hl 1 rfl) ?_
      refine gf_X0_122 X S (el_17 (by decide) g_12) dX0_callSlip_170 ?_
      obtain ⟨q_26, eq_26, h⟩ := pz_bd_e h
      refine r_Vv X S (c_X0_nameAll hn hi0 eq_26) gd_X0_125 ⟨rfl, ny_X0_nameAll⟩ ⟨rfl, rfl⟩ ⟨Nat.le_of_ble_eq_true rfl, Nat.le_of_ble_eq_true rfl⟩ (r_recv X S (ly_ok_0 hi0 S.2.2.2) rfl rfl) rfl rfl hl.1 (Nat.le_of_ble_eq_true rfl) dX0_callSlip_173 (fun H locs S => ?_)
      refine lv_aload_n X.1 X.2.1 dX0_callSlip_176 rfl (lv_at hl 2 rfl) ?_
      obtain ⟨g_27, h⟩ := pz_gd_e h
      refine gf_X0_34 X S hi0 dX0_callSlip_177 ?_
      rw [ly_tx_ne (of_decide_eq_true g_27)]
      refine lv_iconst (v := 1) X.1 X.2.1 dX0_callSlip_180 (by decide) ?_
      refine lv_aload_n X.1 X.2.1 dX0_callSlip_181 rfl (lv_at hl 2 rfl) ?_
      refine gf_X0_9 X S hi0 dX0_callSlip_182 ?_
      obtain ⟨g_28, h⟩ := pz_gd_e h
      obtain ⟨q_29, eq_29, h⟩ := pz_bd_e h
      refine r_Vi X S (c_X7_worth hn (of_decide_eq_true g_28) hi0 eq_29) gd_X0_131 ⟨rfl, ny_X7_worth⟩ ⟨rfl, rfl⟩ ⟨Nat.le_of_ble_eq_true rfl, Nat.le_of_ble_eq_true rfl⟩ (r_recv X S (ly_ok_7 (of_decide_eq_true g_28)) rfl rfl) rfl rfl hl.1 (Nat.le_of_ble_eq_true rfl) dX0_callSlip_185 (fun H locs S => ?_)
      refine lv_iconst (v := 0) X.1 X.2.1 dX0_callSlip_188 (by decide) ?_
      refine lv_bipush (v := 99) X.1 X.2.1 dX0_callSlip_189 (by decide) ?_
      obtain ⟨q_30, eq_30, h⟩ := pz_bd_e h
      refine r_SiN X S (c_X8_within eq_30) ml_X0_118 gs_X0_118.1 gs_X0_118.2 cw_X8_within ny_X8_within ⟨rfl, rfl⟩ ⟨Nat.le_of_ble_eq_true rfl, Nat.le_of_ble_eq_true rfl⟩ rfl rfl hl.1 (Nat.le_of_ble_eq_true rfl) dX0_callSlip_191 (fun H locs S => ?_)
      refine lv_istore (lv' := [(4, .int q_30), (3, .int q_13), (2, .ref (cx_b G + ly_loc 6 (7 * 0 + p1.toNatClampNeg))), (0, .ref (cx_b G + ly_loc 0 i0)), (1, .int p1)]) X.1 X.2.1 dX0_callSlip_194 hl (by decide) rfl (fun ls hl => ?_)
      refine lv_aload_n X.1 X.2.1 dX0_callSlip_196 rfl (lv_at hl 3 rfl) ?_
      refine lv_dup X.1 X.2.1 dX0_callSlip_197 rfl ?_
      refine gf_X0_60 X S hi0 dX0_callSlip_198 ?_
      refine lv_iconst (v := 0) X.1 X.2.1 dX0_callSlip_201 (by decide) ?_
      refine lv_aload_n X.1 X.2.1 dX0_callSlip_202 rfl (lv_at hl 2 rfl) ?_
      refine lv_aload_n X.1 X.2.1 dX0_callSlip_203 rfl (lv_at hl 3 rfl) ?_
      refine gf_X0_72 X S hi0 dX0_callSlip_204 ?_
      obtain ⟨q_31, eq_31, h⟩ := pz_bd_e h
      refine r_Si X S (c_J6_bitCount_0f7a4 eq_31) gd_X0_135 ny_J6_bitCount_0f7a4 ⟨rfl, rfl⟩ ⟨Nat.le_of_ble_eq_true rfl, Nat.le_of_ble_eq_true rfl⟩ rfl rfl hl.1 (Nat.le_of_ble_eq_true rfl) dX0_callSlip_207 (fun H locs S => ?_)
      obtain ⟨q_32, eq_32, h⟩ := pz_bd_e h
      refine r_Vi X S (c_X6_thirst hn (el_17 (by decide) g_12) eq_32) gd_X0_140 ⟨rfl, ny_X6_thirst⟩ ⟨rfl, rfl⟩ ⟨Nat.le_of_ble_eq_true rfl, Nat.le_of_ble_eq_true rfl⟩ (r_recv X S (ly_ok_6 (el_17 (by decide) g_12) S.2.2.2) rfl rfl) rfl rfl hl.1 (Nat.le_of_ble_eq_true rfl) dX0_callSlip_210 (fun H locs S => ?_)
      refine r_max X S (hl.1) mk_X0_143 (Nat.le_of_ble_eq_true rfl) (Nat.le_of_ble_eq_true rfl) dX0_callSlip_213 ?_
      refine lv_iload X.1 X.2.1 dX0_callSlip_216 (lv_at hl 0 rfl) ?_
      refine lv_imul X.1 X.2.1 dX0_callSlip_218 ?_
      refine lv_iadd X.1 X.2.1 dX0_callSlip_219 ?_
      refine pf_X0_60 X S hi0 dX0_callSlip_220 (fun I_33 H locs eI_33 S => ?_)
      have h := pz_lt_e h eI_33
      refine lv_aload_n X.1 X.2.1 dX0_callSlip_223 rfl (lv_at hl 3 rfl) ?_
      obtain ⟨q_34, eq_34, h⟩ := pz_bd_e h
      refine r_Vv X S (c_X0_letLeave hn hi0 eq_34) gd_X0_149 ⟨rfl, ny_X0_letLeave⟩ ⟨rfl, rfl⟩ ⟨Nat.le_of_ble_eq_true rfl, Nat.le_of_ble_eq_true rfl⟩ (r_recv X S (ly_ok_0 hi0 S.2.2.2) rfl rfl) rfl rfl hl.1 (Nat.le_of_ble_eq_true rfl) dX0_callSlip_224 (fun H locs S => ?_)
      cases h
      exact r_vret X S dX0_callSlip_227
    have h := pz_t c_11 h
    cases h
    exact r_vret X S dX0_callSlip_69
  have h := pz_f c_5 h
  cases h
  exact r_vret X S dX0_callSlip_28
def f_X0_callRow_L3 (N n : Nat) (i0 : Nat) (p1 : Int32) : Nat → mm_T → Int32 → Int32 → Option (mm_T)
  | 0, _, _, _ => none
  | cnt + 1, I, a1, a2 => if a2 ≤ 0 then (some I) else (pz_gd (decide (¬ a2 = 0)) <| pz_bd (f_X0_callSlip N n I i0 (((a1 / a2) - (a1 / a2) / (10 : Int32) * (10 : Int32)) - (1 : Int32))) fun q_3 => pz_lt (a2 / (10 : Int32)) fun x_4 => f_X0_callRow_L3 N n i0 p1 cnt q_3 a1 x_4)
set_option maxRecDepth 100000 in
set_option maxHeartbeats 4000000 in
theorem w_X0_callRow_L3 {l : Launch} {G : cx_T} {p : Program} {e : Env} {s : State} {m : MethodId} {args : Array Value} {below : List Frame} {meth : Method} {c : Code} {N n : Nat} {J : mm_T} {i0 : Nat} {p1 : Int32} (X : cx_ok G p s m args meth c cX0_callRow 3 RX0 none) (hn : 144 ≤ n) (hi0 : i0 < 9) {z : mm_T} : ∀ (cnt : Nat) {I : mm_T} {a1 : Int32} {a2 : Int32} {H : Heap} {locs : List Loc} {ls : Array Slot} , f_X0_callRow_L3 N n i0 p1 cnt I a1 a2 = some z → st_ok G n I J s H locs → lv_has ls 3 [(0, .ref (cx_b G + ly_loc 0 i0)), (1, .int a1), (2, .int a2)] → W p l e ({ frames := 4, cells := 0, slots := 0, locals := 130 }) s m args below meth c H locs 0 0 (MQ below (ct_qv G n z J) args s 0 0 (cx_A G)) (F0 m 3 ls []) := by
  intro cnt
  induction cnt with
  | zero =>
    intro I a1 a2 H locs ls h
    rw [f_X0_callRow_L3] at h
    cases h
  | succ cnt ih =>
    intro I a1 a2 H locs ls h S hl
    rw [f_X0_callRow_L3] at h
    refine lv_iload_n X.1 X.2.1 dX0_callRow_3 rfl (lv_at hl 2 rfl) ?_
    refine lv_if_le (tgt := 27) X.1 X.2.1 dX0_callRow_4 (by decide) (fun c_1 => ?_) (fun c_1 => ?_)
    · have h := pz_t c_1 h
      cases h
      exact r_vret X S dX0_callRow_27
    have h := pz_f c_1 h
    refine lv_aload_n X.1 X.2.1 dX0_callRow_7 rfl (lv_at hl 0 rfl) ?_
    refine lv_iload_n X.1 X.2.1 dX0_callRow_8 rfl (lv_at hl 1 rfl) ?_
    refine lv_iload_n X.1 X.2.1 dX0_callRow_9 rfl (lv_at hl 2 rfl) ?_
    obtain ⟨g_2, h⟩ := pz_gd_e h
    refine lv_idiv X.1 X.2.1 dX0_callRow_10 (of_decide_eq_true g_2) ?_
    refine lv_bipush (v := 10) X.1 X.2.1 dX0_callRow_11 (by decide) ?_
    refine lv_irem X.1 X.2.1 dX0_callRow_13 (by decide) ?_
    refine lv_iconst (v := 1) X.1 X.2.1 dX0_callRow_14 (by decide) ?_
    refine lv_isub X.1 X.2.1 dX0_callRow_15 ?_
    obtain ⟨q_3, eq_3, h⟩ := pz_bd_e h
    refine r_Vv X S (c_X0_callSlip hn hi0 eq_3) gd_X0_165 ⟨rfl, ny_X0_callSlip⟩ ⟨rfl, rfl⟩ ⟨Nat.le_of_ble_eq_true rfl, Nat.le_of_ble_eq_true rfl⟩ (r_recv X S (ly_ok_0 hi0 S.2.2.2) rfl rfl) rfl rfl hl.1 (Nat.le_of_ble_eq_true rfl) dX0_callRow_16 (fun H locs S => ?_)
    refine lv_iload_n X.1 X.2.1 dX0_callRow_19 rfl (lv_at hl 2 rfl) ?_
    refine lv_bipush (v := 10) X.1 X.2.1 dX0_callRow_20 (by decide) ?_
    refine lv_idiv X.1 X.2.1 dX0_callRow_22 (by decide) ?_
    refine lv_topi (fun x_4 ex_4 => ?_)
    have h := pz_lt_e h ex_4
    refine lv_istore_n (lv' := [(2, .int x_4), (0, .ref (cx_b G + ly_loc 0 i0)), (1, .int a1)]) X.1 X.2.1 dX0_callRow_23 rfl hl (by decide) rfl (fun ls hl => ?_)
    refine lv_goto (tgt := 3) X.1 X.2.1 dX0_callRow_24 (by decide) ?_
    exact ih h S (lv_sub hl [1, 2, 0] rfl)
def f_X0_callRow (N n : Nat) (I : mm_T) (i0 : Nat) (p1 : Int32) : Option (mm_T) := f_X0_callRow_L3 N n i0 p1 N I p1 (1000000 : Int32)
set_option maxRecDepth 100000 in
set_option maxHeartbeats 4000000 in
theorem c_X0_callRow {l : Launch} {G : cx_T} {N n : Nat} {I J : mm_T} {i0 : Nat} {p1 : Int32} (hn : 144 ≤ n) (hi0 : i0 < 9) {z : mm_T} (h : f_X0_callRow N n I i0 p1 = some z) : ct_m l G n yX0_callRow cX0_callRow 3 none ({ frames := 4, cells := 0, slots := 0, locals := 130 }) [.ref (cx_b G + ly_loc 0 i0), .int p1] I J (ct_qv G n z J) := by
  refine ct_en (by decide) (Nat.le_of_ble_eq_true rfl) ?_
  intro p e s m args below meth c ls X S hl
  have X : cx_ok G p s m args meth c cX0_callRow 3 RX0 none := X
  have hl : lv_has ls 3 [(0, .ref (cx_b G + ly_loc 0 i0)), (1, .int p1)] := hl
  unfold f_X0_callRow at h
  refine lv_ldc (v := 1000000) X.1 X.2.1 X.2.2.2.1 (X.2.2.2.2.1 _ kw_X0_164) dX0_callRow_0 ?_
  refine lv_istore_n (lv' := [(2, .int (1000000 : Int32)), (0, .ref (cx_b G + ly_loc 0 i0)), (1, .int p1)]) X.1 X.2.1 dX0_callRow_2 rfl hl (by decide) rfl (fun ls hl => ?_)
  exact w_X0_callRow_L3 X hn hi0 N h S (lv_sub hl [1, 2, 0] rfl)
def f_X0_firstByDesk_L116 (N n : Nat) (i0 : Nat) (k6 : mm_T → Int32 → Int32 → Int32 → Option (mm_T × Int32)) (I : mm_T) (a1 : Int32) (a2 : Int32) (a3 : Int32) : Option (mm_T × Int32) := pz_lt (a3 + (1 : Int32)) fun x_17 => k6 I a1 a2 x_17
set_option maxRecDepth 100000 in
set_option maxHeartbeats 4000000 in
theorem w_X0_firstByDesk_L116 {l : Launch} {G : cx_T} {p : Program} {e : Env} {s : State} {m : MethodId} {args : Array Value} {below : List Frame} {meth : Method} {c : Code} {N n : Nat} {J : mm_T} {i0 : Nat} (X : cx_ok G p s m args meth c cX0_firstByDesk 7 RX0 (some .int)) (hn : 144 ≤ n) (hi0 : i0 < 9) {k6 : mm_T → Int32 → Int32 → Int32 → Option (mm_T × Int32)} {z : mm_T × Int32} (K6 : ∀ {I : mm_T} {a1 : Int32} {a2 : Int32} {a3 : Int32} {H : Heap} {locs : List Loc} {ls : Array Slot}, k6 I a1 a2 a3 = some z → st_ok G n I J s H locs → lv_has ls 7 [(0, .ref (cx_b G + ly_loc 0 i0)), (1, .int a1), (2, .int a2), (3, .int a3)] → W p l e ({ frames := 2, cells := 0, slots := 0, locals := 50 }) s m args below meth c H locs 0 0 (MQ below (ct_qi G n z.1 J z.2) args s 0 0 (cx_A G)) (F0 m 6 ls [])) {I : mm_T} {a1 : Int32} {a2 : Int32} {a3 : Int32} {H : Heap} {locs : List Loc} {ls : Array Slot} (h : f_X0_firstByDesk_L116 N n i0 k6 I a1 a2 a3 = some z) (S : st_ok G n I J s H locs) (hl : lv_has ls 7 [(0, .ref (cx_b G + ly_loc 0 i0)), (1, .int a1), (2, .int a2), (3, .int a3)]) : W p l e ({ frames := 2, cells := 0, slots := 0, locals := 50 }) s m args below meth c H locs 0 0 (MQ below (ct_qi G n z.1 J z.2) args s 0 0 (cx_A G)) (F0 m 116 ls []) := by
  unfold f_X0_firstByDesk_L116 at h
  obtain ⟨x_17, ex_17⟩ : ∃ y : Int32, y = (a3 + (1 : Int32)) := ⟨_, rfl⟩
  have h := pz_lt_e h ex_17
  refine lv_iinc (v := x_17) (lv' := [(3, .int x_17), (0, .ref (cx_b G + ly_loc 0 i0)), (1, .int a1), (2, .int a2)]) X.1 X.2.1 dX0_firstByDesk_116 hl (k := 3) rfl (by rw [ex_17]; rfl) (by decide) rfl (fun ls hl => ?_)
  refine lv_goto (tgt := 6) X.1 X.2.1 dX0_firstByDesk_119 (by decide) ?_
  exact K6 h S (lv_sub hl [1, 2, 3, 0] rfl)
def f_X0_firstByDesk_L111 (N n : Nat) (i0 : Nat) (k6 : mm_T → Int32 → Int32 → Int32 → Option (mm_T × Int32)) (I : mm_T) (a3 : Int32) (a6 : Int32) : Option (mm_T × Int32) := f_X0_firstByDesk_L116 N n i0 k6 I a3 a6 a3
set_option maxRecDepth 100000 in
set_option maxHeartbeats 4000000 in
theorem w_X0_firstByDesk_L111 {l : Launch} {G : cx_T} {p : Program} {e : Env} {s : State} {m : MethodId} {args : Array Value} {below : List Frame} {meth : Method} {c : Code} {N n : Nat} {J : mm_T} {i0 : Nat} (X : cx_ok G p s m args meth c cX0_firstByDesk 7 RX0 (some .int)) (hn : 144 ≤ n) (hi0 : i0 < 9) {k6 : mm_T → Int32 → Int32 → Int32 → Option (mm_T × Int32)} {z : mm_T × Int32} (K6 : ∀ {I : mm_T} {a1 : Int32} {a2 : Int32} {a3 : Int32} {H : Heap} {locs : List Loc} {ls : Array Slot}, k6 I a1 a2 a3 = some z → st_ok G n I J s H locs → lv_has ls 7 [(0, .ref (cx_b G + ly_loc 0 i0)), (1, .int a1), (2, .int a2), (3, .int a3)] → W p l e ({ frames := 2, cells := 0, slots := 0, locals := 50 }) s m args below meth c H locs 0 0 (MQ below (ct_qi G n z.1 J z.2) args s 0 0 (cx_A G)) (F0 m 6 ls [])) {I : mm_T} {a3 : Int32} {a6 : Int32} {H : Heap} {locs : List Loc} {ls : Array Slot} (h : f_X0_firstByDesk_L111 N n i0 k6 I a3 a6 = some z) (S : st_ok G n I J s H locs) (hl : lv_has ls 7 [(0, .ref (cx_b G + ly_loc 0 i0)), (3, .int a3), (6, .int a6)]) : W p l e ({ frames := 2, cells := 0, slots := 0, locals := 50 }) s m args below meth c H locs 0 0 (MQ below (ct_qi G n z.1 J z.2) args s 0 0 (cx_A G)) (F0 m 111 ls []) := by
  unfold f_X0_firstByDesk_L111 at h
  refine lv_iload_n X.1 X.2.1 dX0_firstByDesk_111 rfl (lv_at hl 1 rfl) ?_
  refine lv_istore_n (lv' := [(1, .int a3), (0, .ref (cx_b G + ly_loc 0 i0)), (3, .int a3), (6, .int a6)]) X.1 X.2.1 dX0_firstByDesk_112 rfl hl (by decide) rfl (fun ls hl => ?_)
  refine lv_iload X.1 X.2.1 dX0_firstByDesk_113 (lv_at hl 3 rfl) ?_
  refine lv_istore_n (lv' := [(2, .int a6), (1, .int a3), (0, .ref (cx_b G + ly_loc 0 i0)), (3, .int a3), (6, .int a6)]) X.1 X.2.1 dX0_firstByDesk_115 rfl hl (by decide) rfl (fun ls hl => ?_)
  exact w_X0_firstByDesk_L116 X hn hi0 K6 h S (lv_sub hl [2, 1, 0, 3] rfl)
def f_X0_firstByDesk_L6 (N n : Nat) (i0 : Nat) : Nat → mm_T → Int32 → Int32 → Int32 → Option (mm_T × Int32)
  | 0, _, _, _, _ => none
  | cnt + 1, I, a1, a2, a3 => if (I 1 0 3) ≤ a3 then (some (I, a1)) else (pz_bd (f_X0_wasCalled N n I i0 a3) fun q_2 => if q_2 = 0 then (pz_bd (f_X0_wouldBeSung N n I i0 a3) fun q_4 => if q_4 = 0 then (f_X0_firstByDesk_L116 N n i0 (f_X0_firstByDesk_L6 N n i0 cnt) I a1 a2 a3) else (pz_gd (ix_in a3 7) <| pz_bd (f_X1_groupOf N n I 0 (7 * 0 + a3.toNatClampNeg)) fun q_7 => pz_gd (ix_in q_7 8) <| pz_gd (ix_in q_7 8) <| pz_bd (f_X0_nameAll N n I i0 ((I 0 i0 10) - (I 11 i0 q_7.toNatClampNeg)) (I 12 i0 q_7.toNatClampNeg) (I 6 (7 * 0 + a3.toNatClampNeg) 0)) fun q_10 => pz_gd (decide (¬ (q_10 0 i0 1) = -1)) <| pz_gd (decide (3 * (q_10 0 i0 1).toNatClampNeg + 144 ≤ n)) <| pz_bd (f_X7_worth N n q_10 (q_10 0 i0 1) (2 : Int32) i0) fun q_13 => pz_lt q_13.2 fun x_14 => if a1 = (-1 : Int32) then (f_X0_firstByDesk_L111 N n i0 (f_X0_firstByDesk_L6 N n i0 cnt) q_13.1 a3 x_14) else (if x_14 ≤ a2 then (f_X0_firstByDesk_L116 N n i0 (f_X0_firstByDesk_L6 N n i0 cnt) q_13.1 a1 a2 a3) else (f_X0_firstByDesk_L111 N n i0 (f_X0_firstByDesk_L6 N n i0 cnt) q_13.1 a3 x_14)))) else (f_X0_firstByDesk_L116 N n i0 (f_X0_firstByDesk_L6 N n i0 cnt) I a1 a2 a3))
set_option maxRecDepth 100000 in
set_option maxHeartbeats 4000000 in
theorem w_X0_firstByDesk_L6 {l : Launch} {G : cx_T} {p : Program} {e : Env} {s : State} {m : MethodId} {args : Array Value} {below : List Frame} {meth : Method} {c : Code} {N n : Nat} {J : mm_T} {i0 : Nat} (X : cx_ok G p s m args meth c cX0_firstByDesk 7 RX0 (some .int)) (hn : 144 ≤ n) (hi0 : i0 < 9) {z : mm_T × Int32} : ∀ (cnt : Nat) {I : mm_T} {a1 : Int32} {a2 : Int32} {a3 : Int32} {H : Heap} {locs : List Loc} {ls : Array Slot} , f_X0_firstByDesk_L6 N n i0 cnt I a1 a2 a3 = some z → st_ok G n I J s H locs → lv_has ls 7 [(0, .ref (cx_b G + ly_loc 0 i0)), (1, .int a1), (2, .int a2), (3, .int a3)] → W p l e ({ frames := 2, cells := 0, slots := 0, locals := 50 }) s m args below meth c H locs 0 0 (MQ below (ct_qi G n z.1 J z.2) args s 0 0 (cx_A G)) (F0 m 6 ls []) := by
  intro cnt
  induction cnt with
  | zero =>
    intro I a1 a2 a3 H locs ls h
    rw [f_X0_firstByDesk_L6] at h
    cases h
  | succ cnt ih =>
    intro I a1 a2 a3 H locs ls h S hl
    rw [f_X0_firstByDesk_L6] at h
    refine lv_iload_n X.1 X.2.1 dX0_firstByDesk_6 rfl (lv_at hl 3 rfl) ?_
    refine lv_aload_n X.1 X.2.1 dX0_firstByDesk_7 rfl (lv_at hl 0 rfl) ?_
    refine gf_X0_30 X S hi0 dX0_firstByDesk_8 ?_
    refine gf_X0_172 X S (by decide) dX0_firstByDesk_11 ?_
    refine lv_icmp_ge (tgt := 122) X.1 X.2.1 dX0_firstByDesk_14 (by decide) (fun c_1 => ?_) (fun c_1 => ?_)
    · have h := pz_t c_1 h
      refine lv_iload_n X.1 X.2.1 dX0_firstByDesk_122 rfl (lv_at hl 1 rfl) ?_
      cases h
      exact r_iret X S dX0_firstByDesk_123
    have h := pz_f c_1 h
    refine lv_aload_n X.1 X.2.1 dX0_firstByDesk_17 rfl (lv_at hl 0 rfl) ?_
    refine lv_iload_n X.1 X.2.1 dX0_firstByDesk_18 rfl (lv_at hl 3 rfl) ?_
    obtain ⟨q_2, eq_2, h⟩ := pz_bd_e h
    refine r_Vi X S (c_X0_wasCalled hn hi0 eq_2) gd_X0_104 ⟨rfl, ny_X0_wasCalled⟩ ⟨rfl, rfl⟩ ⟨Nat.le_of_ble_eq_true rfl, Nat.le_of_ble_eq_true rfl⟩ (r_recv X S (ly_ok_0 hi0 S.2.2.2) rfl rfl) rfl rfl hl.1 (Nat.le_of_ble_eq_true rfl) dX0_firstByDesk_19 (fun H locs S => ?_)
    refine lv_if_ne (tgt := 116) X.1 X.2.1 dX0_firstByDesk_22 (by decide) (fun c_3 => ?_) (fun c_3 => ?_)
    · have h := pz_f c_3 h
      exact w_X0_firstByDesk_L116 X hn hi0 ih h S (lv_sub hl [0, 1, 2, 3] rfl)
    have h := pz_t c_3 h
    refine lv_aload_n X.1 X.2.1 dX0_firstByDesk_25 rfl (lv_at hl 0 rfl) ?_
    refine lv_iload_n X.1 X.2.1 dX0_firstByDesk_26 rfl (lv_at hl 3 rfl) ?_
    obtain ⟨q_4, eq_4, h⟩ := pz_bd_e h
    refine r_Vi X S (c_X0_wouldBeSung hn hi0 eq_4) gd_X0_107 ⟨rfl, ny_X0_wouldBeSung⟩ ⟨rfl, rfl⟩ ⟨Nat.le_of_ble_eq_true rfl, Nat.le_of_ble_eq_true rfl⟩ (r_recv X S (ly_ok_0 hi0 S.2.2.2) rfl rfl) rfl rfl hl.1 (Nat.le_of_ble_eq_true rfl) dX0_firstByDesk_27 (fun H locs S => ?_)
    refine lv_if_ne (tgt := 36) X.1 X.2.1 dX0_firstByDesk_30 (by decide) (fun c_5 => ?_) (fun c_5 => ?_)
    · have h := pz_f c_5 h
      refine lv_aload_n X.1 X.2.1 dX0_firstByDesk_36 rfl (lv_at hl 0 rfl) ?_
      refine gf_X0_30 X S hi0 dX0_firstByDesk_37 ?_
      refine gf_X0_89 X S (by decide) dX0_firstByDesk_40 ?_
      refine lv_iload_n X.1 X.2.1 dX0_firstByDesk_43 rfl (lv_at hl 3 rfl) ?_
      obtain ⟨g_6, h⟩ := pz_gd_e h
      refine aa_17 X S (by decide) g_6 dX0_firstByDesk_44 ?_
      refine lv_astore (lv' := [(4, .ref (cx_b G + ly_loc 6 (7 * 0 + a3.toNatClampNeg))), (0, .ref (cx_b G + ly_loc 0 i0)), (1, .int a1), (2, .int a2), (3, .int a3)]) X.1 X.2.1 dX0_firstByDesk_45 hl (by decide) rfl (fun ls hl => ?_)
      refine lv_aload_n X.1 X.2.1 dX0_firstByDesk_47 rfl (lv_at hl 1 rfl) ?_
      refine gf_X0_30 X S hi0 dX0_firstByDesk_48 ?_
      refine lv_aload X.1 X.2.1 dX0_firstByDesk_51 (lv_at hl 0 rfl) ?_
      obtain ⟨q_7, eq_7, h⟩ := pz_bd_e h
      refine r_Vi X S (c_X1_groupOf hn (by decide) (el_17 (by decide) g_6) eq_7) gd_X0_110 ⟨rfl, ny_X1_groupOf⟩ ⟨rfl, rfl⟩ ⟨Nat.le_of_ble_eq_true rfl, Nat.le_of_ble_eq_true rfl⟩ (r_recv X S (ly_ok_1 (by decide) S.2.2.2) rfl rfl) rfl rfl hl.1 (Nat.le_of_ble_eq_true rfl) dX0_firstByDesk_53 (fun H locs S => ?_)
      refine lv_istore (lv' := [(5, .int q_7), (4, .ref (cx_b G + ly_loc 6 (7 * 0 + a3.toNatClampNeg))), (0, .ref (cx_b G + ly_loc 0 i0)), (1, .int a1), (2, .int a2), (3, .int a3)]) X.1 X.2.1 dX0_firstByDesk_56 hl (by decide) rfl (fun ls hl => ?_)
      refine lv_aload_n X.1 X.2.1 dX0_firstByDesk_58 rfl (lv_at hl 2 rfl) ?_
      refine lv_aload_n X.1 X.2.1 dX0_firstByDesk_59 rfl (lv_at hl 2 rfl) ?_
      refine gf_X0_51 X S hi0 dX0_firstByDesk_60 ?_
      refine lv_aload_n X.1 X.2.1 dX0_firstByDesk_63 rfl (lv_at hl 2 rfl) ?_
      refine gf_X0_15 X S hi0 dX0_firstByDesk_64 ?_
      refine lv_iload X.1 X.2.1 dX0_firstByDesk_67 (lv_at hl 0 rfl) ?_
      obtain ⟨g_8, h⟩ := pz_gd_e h
      refine al_11 X S hi0 g_8 dX0_firstByDesk_69 ?_
      refine lv_isub X.1 X.2.1 dX0_firstByDesk_70 ?_
      refine lv_aload_n X.1 X.2.1 dX0_firstByDesk_71 rfl (lv_at hl 2 rfl) ?_
      refine gf_X0_18 X S hi0 dX0_firstByDesk_72 ?_
      refine lv_iload X.1 X.2.1 dX0_firstByDesk_75 (lv_at hl 0 rfl) ?_
      obtain ⟨g_9, h⟩ := pz_gd_e h
      refine al_12 X S hi0 g_9 dX0_firstByDesk_77 ?_
      refine lv_aload X.1 X.2.1 dX0_firstByDesk_78 (lv_at hl 1 rfl) ?_
      refine gf_X0_122 X S (el_17 (by decide) g_6) dX0_firstByDesk_80 ?_
      obtain ⟨q_10, eq_10, h⟩ := pz_bd_e h
      refine r_Vv X S (c_X0_nameAll hn hi0 eq_10) gd_X0_125 ⟨rfl, ny_X0_nameAll⟩ ⟨rfl, rfl⟩ ⟨Nat.le_of_ble_eq_true rfl, Nat.le_of_ble_eq_true rfl⟩ (r_recv X S (ly_ok_0 hi0 S.2.2.2) rfl rfl) rfl rfl hl.1 (Nat.le_of_ble_eq_true rfl) dX0_firstByDesk_83 (fun H locs S => ?_)
      refine lv_aload_n X.1 X.2.1 dX0_firstByDesk_86 rfl (lv_at hl 2 rfl) ?_
      obtain ⟨g_11, h⟩ := pz_gd_e h
      refine gf_X0_34 X S hi0 dX0_firstByDesk_87 ?_
      rw [ly_tx_ne (of_decide_eq_true g_11)]
      refine lv_iconst (v := 2) X.1 X.2.1 dX0_firstByDesk_90 (by decide) ?_
      refine lv_aload_n X.1 X.2.1 dX0_firstByDesk_91 rfl (lv_at hl 2 rfl) ?_
      refine gf_X0_9 X S hi0 dX0_firstByDesk_92 ?_
      obtain ⟨g_12, h⟩ := pz_gd_e h
      obtain ⟨q_13, eq_13, h⟩ := pz_bd_e h
      refine r_Vi X S (c_X7_worth hn (of_decide_eq_true g_12) hi0 eq_13) gd_X0_131 ⟨rfl, ny_X7_worth⟩ ⟨rfl, rfl⟩ ⟨Nat.le_of_ble_eq_true rfl, Nat.le_of_ble_eq_true rfl⟩ (r_recv X S (ly_ok_7 (of_decide_eq_true g_12)) rfl rfl) rfl rfl hl.1 (Nat.le_of_ble_eq_true rfl) dX0_firstByDesk_95 (fun H locs S => ?_)
      refine lv_topi (fun x_14 ex_14 => ?_)
      have h := pz_lt_e h ex_14
      refine lv_istore (lv' := [(6, .int x_14), (5, .int q_7), (4, .ref (cx_b G + ly_loc 6 (7 * 0 + a3.toNatClampNeg))), (0, .ref (cx_b G + ly_loc 0 i0)), (1, .int a1), (2, .int a2), (3, .int a3)]) X.1 X.2.1 dX0_firstByDesk_98 hl (by decide) rfl (fun ls hl => ?_)
      refine lv_iload_n X.1 X.2.1 dX0_firstByDesk_100 rfl (lv_at hl 4 rfl) ?_
      refine lv_iconst (v := -1) X.1 X.2.1 dX0_firstByDesk_101 (by decide) ?_
      refine lv_icmp_eq (tgt := 111) X.1 X.2.1 dX0_firstByDesk_102 (by decide) (fun c_15 => ?_) (fun c_15 => ?_)
      · have h := pz_t c_15 h
        exact w_X0_firstByDesk_L111 X hn hi0 ih h S (lv_sub hl [3, 6, 0] rfl)
      have h := pz_f c_15 h
      refine lv_iload X.1 X.2.1 dX0_firstByDesk_105 (lv_at hl 0 rfl) ?_
      refine lv_iload_n X.1 X.2.1 dX0_firstByDesk_107 rfl (lv_at hl 5 rfl) ?_
      refine lv_icmp_le (tgt := 116) X.1 X.2.1 dX0_firstByDesk_108 (by decide) (fun c_16 => ?_) (fun c_16 => ?_)
      · have h := pz_t c_16 h
        exact w_X0_firstByDesk_L116 X hn hi0 ih h S (lv_sub hl [3, 4, 5, 6] rfl)
      have h := pz_f c_16 h
      exact w_X0_firstByDesk_L111 X hn hi0 ih h S (lv_sub hl [3, 6, 0] rfl)
    have h := pz_t c_5 h
    refine lv_goto (tgt := 116) X.1 X.2.1 dX0_firstByDesk_33 (by decide) ?_
    exact w_X0_firstByDesk_L116 X hn hi0 ih h S (lv_sub hl [0, 1, 2, 3] rfl)
def f_X0_firstByDesk (N n : Nat) (I : mm_T) (i0 : Nat) : Option (mm_T × Int32) := f_X0_firstByDesk_L6 N n i0 N I (-1 : Int32) (0 : Int32) (0 : Int32)
set_option maxRecDepth 100000 in
set_option maxHeartbeats 4000000 in
theorem c_X0_firstByDesk {l : Launch} {G : cx_T} {N n : Nat} {I J : mm_T} {i0 : Nat} (hn : 144 ≤ n) (hi0 : i0 < 9) {z : mm_T × Int32} (h : f_X0_firstByDesk N n I i0 = some z) : ct_m l G n yX0_firstByDesk cX0_firstByDesk 7 (some .int) ({ frames := 2, cells := 0, slots := 0, locals := 50 }) [.ref (cx_b G + ly_loc 0 i0)] I J (ct_qi G n z.1 J z.2) := by
  refine ct_en (by decide) (Nat.le_of_ble_eq_true rfl) ?_
  intro p e s m args below meth c ls X S hl
  have X : cx_ok G p s m args meth c cX0_firstByDesk 7 RX0 (some .int) := X
  have hl : lv_has ls 7 [(0, .ref (cx_b G + ly_loc 0 i0))] := hl
  unfold f_X0_firstByDesk at h
  refine lv_iconst (v := -1) X.1 X.2.1 dX0_firstByDesk_0 (by decide) ?_
  refine lv_istore_n (lv' := [(1, .int (-1 : Int32)), (0, .ref (cx_b G + ly_loc 0 i0))]) X.1 X.2.1 dX0_firstByDesk_1 rfl hl (by decide) rfl (fun ls hl => ?_)
  refine lv_iconst (v := 0) X.1 X.2.1 dX0_firstByDesk_2 (by decide) ?_
  refine lv_istore_n (lv' := [(2, .int (0 : Int32)), (1, .int (-1 : Int32)), (0, .ref (cx_b G + ly_loc 0 i0))]) X.1 X.2.1 dX0_firstByDesk_3 rfl hl (by decide) rfl (fun ls hl => ?_)
  refine lv_iconst (v := 0) X.1 X.2.1 dX0_firstByDesk_4 (by decide) ?_
  refine lv_istore_n (lv' := [(3, .int (0 : Int32)), (2, .int (0 : Int32)), (1, .int (-1 : Int32)), (0, .ref (cx_b G + ly_loc 0 i0))]) X.1 X.2.1 dX0_firstByDesk_5 rfl hl (by decide) rfl (fun ls hl => ?_)
  exact w_X0_firstByDesk_L6 X hn hi0 N h S (lv_sub hl [3, 2, 1, 0] rfl)
def f_X0_callByDesk_L2 (N n : Nat) (i0 : Nat) : Nat → mm_T → Int32 → Option (mm_T)
  | 0, _, _ => none
  | cnt + 1, I, a1 => if (7 : Int32) ≤ a1 then (some I) else (pz_bd (f_X0_firstByDesk N n I i0) fun q_2 => pz_bd (f_X0_callSlip N n q_2.1 i0 q_2.2) fun q_3 => pz_lt (a1 + (1 : Int32)) fun x_4 => f_X0_callByDesk_L2 N n i0 cnt q_3 x_4)
set_option maxRecDepth 100000 in
set_option maxHeartbeats 4000000 in
theorem w_X0_callByDesk_L2 {l : Launch} {G : cx_T} {p : Program} {e : Env} {s : State} {m : MethodId} {args : Array Value} {below : List Frame} {meth : Method} {c : Code} {N n : Nat} {J : mm_T} {i0 : Nat} (X : cx_ok G p s m args meth c cX0_callByDesk 2 RX0 none) (hn : 144 ≤ n) (hi0 : i0 < 9) {z : mm_T} : ∀ (cnt : Nat) {I : mm_T} {a1 : Int32} {H : Heap} {locs : List Loc} {ls : Array Slot} , f_X0_callByDesk_L2 N n i0 cnt I a1 = some z → st_ok G n I J s H locs → lv_has ls 2 [(0, .ref (cx_b G + ly_loc 0 i0)), (1, .int a1)] → W p l e ({ frames := 4, cells := 0, slots := 0, locals := 130 }) s m args below meth c H locs 0 0 (MQ below (ct_qv G n z J) args s 0 0 (cx_A G)) (F0 m 2 ls []) := by
  intro cnt
  induction cnt with
  | zero =>
    intro I a1 H locs ls h
    rw [f_X0_callByDesk_L2] at h
    cases h
  | succ cnt ih =>
    intro I a1 H locs ls h S hl
    rw [f_X0_callByDesk_L2] at h
    refine lv_iload_n X.1 X.2.1 dX0_callByDesk_2 rfl (lv_at hl 1 rfl) ?_
    refine lv_bipush (v := 7) X.1 X.2.1 dX0_callByDesk_3 (by decide) ?_
    refine lv_icmp_ge (tgt := 22) X.1 X.2.1 dX0_callByDesk_5 (by decide) (fun c_1 => ?_) (fun c_1 => ?_)
    · have h := pz_t c_1 h
      cases h
      exact r_vret X S dX0_callByDesk_22
    have h := pz_f c_1 h
    refine lv_aload_n X.1 X.2.1 dX0_callByDesk_8 rfl (lv_at hl 0 rfl) ?_
    refine lv_aload_n X.1 X.2.1 dX0_callByDesk_9 rfl (lv_at hl 0 rfl) ?_
    obtain ⟨q_2, eq_2, h⟩ := pz_bd_e h
    refine r_Vi X S (c_X0_firstByDesk hn hi0 eq_2) gd_X0_169 ⟨rfl, ny_X0_firstByDesk⟩ ⟨rfl, rfl⟩ ⟨Nat.le_of_ble_eq_true rfl, Nat.le_of_ble_eq_true rfl⟩ (r_recv X S (ly_ok_0 hi0 S.2.2.2) rfl rfl) rfl rfl hl.1 (Nat.le_of_ble_eq_true rfl) dX0_callByDesk_10 (fun H locs S => ?_)
    obtain ⟨q_3, eq_3, h⟩ := pz_bd_e h
    refine r_Vv X S (c_X0_callSlip hn hi0 eq_3) gd_X0_165 ⟨rfl, ny_X0_callSlip⟩ ⟨rfl, rfl⟩ ⟨Nat.le_of_ble_eq_true rfl, Nat.le_of_ble_eq_true rfl⟩ (r_recv X S (ly_ok_0 hi0 S.2.2.2) rfl rfl) rfl rfl hl.1 (Nat.le_of_ble_eq_true rfl) dX0_callByDesk_13 (fun H locs S => ?_)
    obtain ⟨x_4, ex_4⟩ : ∃ y : Int32, y = (a1 + (1 : Int32)) := ⟨_, rfl⟩
    have h := pz_lt_e h ex_4
    refine lv_iinc (v := x_4) (lv' := [(1, .int x_4), (0, .ref (cx_b G + ly_loc 0 i0))]) X.1 X.2.1 dX0_callByDesk_16 hl (k := 1) rfl (by rw [ex_4]; rfl) (by decide) rfl (fun ls hl => ?_)
    refine lv_goto (tgt := 2) X.1 X.2.1 dX0_callByDesk_19 (by decide) ?_
    exact ih h S (lv_sub hl [1, 0] rfl)
def f_X0_callByDesk (N n : Nat) (I : mm_T) (i0 : Nat) : Option (mm_T) := f_X0_callByDesk_L2 N n i0 N I (0 : Int32)
set_option maxRecDepth 100000 in
set_option maxHeartbeats 4000000 in
theorem c_X0_callByDesk {l : Launch} {G : cx_T} {N n : Nat} {I J : mm_T} {i0 : Nat} (hn : 144 ≤ n) (hi0 : i0 < 9) {z : mm_T} (h : f_X0_callByDesk N n I i0 = some z) : ct_m l G n yX0_callByDesk cX0_callByDesk 2 none ({ frames := 4, cells := 0, slots := 0, locals := 130 }) [.ref (cx_b G + ly_loc 0 i0)] I J (ct_qv G n z J) := by
  refine ct_en (by decide) (Nat.le_of_ble_eq_true rfl) ?_
  intro p e s m args below meth c ls X S hl
  have X : cx_ok G p s m args meth c cX0_callByDesk 2 RX0 none := X
  have hl : lv_has ls 2 [(0, .ref (cx_b G + ly_loc 0 i0))] := hl
  unfold f_X0_callByDesk at h
  refine lv_iconst (v := 0) X.1 X.2.1 dX0_callByDesk_0 (by decide) ?_
  refine lv_istore_n (lv' := [(1, .int (0 : Int32)), (0, .ref (cx_b G + ly_loc 0 i0))]) X.1 X.2.1 dX0_callByDesk_1 rfl hl (by decide) rfl (fun ls hl => ?_)
  exact w_X0_callByDesk_L2 X hn hi0 N h S (lv_sub hl [1, 0] rfl)
def f_X0_uncalled_L35 (N n : Nat) (I : mm_T) (i0 : Nat) (p1 : Int32) (k4 : Int32 → Int32 → Option (Int32)) (a2 : Int32) (a3 : Int32) : Option (Int32) := pz_lt (a3 + (1 : Int32)) fun x_6 => k4 a2 x_6
set_option maxRecDepth 100000 in
set_option maxHeartbeats 4000000 in
theorem w_X0_uncalled_L35 {l : Launch} {G : cx_T} {p : Program} {e : Env} {s : State} {m : MethodId} {args : Array Value} {below : List Frame} {meth : Method} {c : Code} {N n : Nat} {I J : mm_T} {i0 : Nat} {p1 : Int32} (X : cx_ok G p s m args meth c cX0_uncalled 4 RX0 (some .int)) (hn : 144 ≤ n) (hi0 : i0 < 9) {k4 : Int32 → Int32 → Option (Int32)} {z : Int32} (K4 : ∀ {a2 : Int32} {a3 : Int32} {H : Heap} {locs : List Loc} {ls : Array Slot}, k4 a2 a3 = some z → st_ok G n I J s H locs → lv_has ls 4 [(0, .ref (cx_b G + ly_loc 0 i0)), (2, .int a2), (3, .int a3)] → W p l e ({ frames := 1, cells := 0, slots := 0, locals := 21 }) s m args below meth c H locs 0 0 (MQ below (ct_qi G n I J z) args s 0 0 (cx_A G)) (F0 m 4 ls [])) {a2 : Int32} {a3 : Int32} {H : Heap} {locs : List Loc} {ls : Array Slot} (h : f_X0_uncalled_L35 N n I i0 p1 k4 a2 a3 = some z) (S : st_ok G n I J s H locs) (hl : lv_has ls 4 [(0, .ref (cx_b G + ly_loc 0 i0)), (2, .int a2), (3, .int a3)]) : W p l e ({ frames := 1, cells := 0, slots := 0, locals := 21 }) s m args below meth c H locs 0 0 (MQ below (ct_qi G n I J z) args s 0 0 (cx_A G)) (F0 m 35 ls []) := by
  unfold f_X0_uncalled_L35 at h
  obtain ⟨x_6, ex_6⟩ : ∃ y : Int32, y = (a3 + (1 : Int32)) := ⟨_, rfl⟩
  have h := pz_lt_e h ex_6
  refine lv_iinc (v := x_6) (lv' := [(3, .int x_6), (0, .ref (cx_b G + ly_loc 0 i0)), (2, .int a2)]) X.1 X.2.1 dX0_uncalled_35 hl (k := 2) rfl (by rw [ex_6]; rfl) (by decide) rfl (fun ls hl => ?_)
  refine lv_goto (tgt := 4) X.1 X.2.1 dX0_uncalled_38 (by decide) ?_
  exact K4 h S (lv_sub hl [1, 2, 0] rfl)
def f_X0_uncalled_L4 (N n : Nat) (I : mm_T) (i0 : Nat) (p1 : Int32) : Nat → Int32 → Int32 → Option (Int32)
  | 0, _, _ => none
  | cnt + 1, a2, a3 => if (I 1 0 3) ≤ a3 then (some (-1 : Int32)) else (pz_bd (f_X0_wasCalled N n I i0 a3) fun q_2 => if q_2 = 0 then (if a2 = 0 then (some a3) else (pz_lt (a2 + (-1 : Int32)) fun x_5 => f_X0_uncalled_L35 N n I i0 p1 (f_X0_uncalled_L4 N n I i0 p1 cnt) x_5 a3)) else (f_X0_uncalled_L35 N n I i0 p1 (f_X0_uncalled_L4 N n I i0 p1 cnt) a2 a3))
set_option maxRecDepth 100000 in
set_option maxHeartbeats 4000000 in
theorem w_X0_uncalled_L4 {l : Launch} {G : cx_T} {p : Program} {e : Env} {s : State} {m : MethodId} {args : Array Value} {below : List Frame} {meth : Method} {c : Code} {N n : Nat} {I J : mm_T} {i0 : Nat} {p1 : Int32} (X : cx_ok G p s m args meth c cX0_uncalled 4 RX0 (some .int)) (hn : 144 ≤ n) (hi0 : i0 < 9) {z : Int32} : ∀ (cnt : Nat) {a2 : Int32} {a3 : Int32} {H : Heap} {locs : List Loc} {ls : Array Slot} , f_X0_uncalled_L4 N n I i0 p1 cnt a2 a3 = some z → st_ok G n I J s H locs → lv_has ls 4 [(0, .ref (cx_b G + ly_loc 0 i0)), (2, .int a2), (3, .int a3)] → W p l e ({ frames := 1, cells := 0, slots := 0, locals := 21 }) s m args below meth c H locs 0 0 (MQ below (ct_qi G n I J z) args s 0 0 (cx_A G)) (F0 m 4 ls []) := by
  intro cnt
  induction cnt with
  | zero =>
    intro a2 a3 H locs ls h
    rw [f_X0_uncalled_L4] at h
    cases h
  | succ cnt ih =>
    intro a2 a3 H locs ls h S hl
    rw [f_X0_uncalled_L4] at h
    refine lv_iload_n X.1 X.2.1 dX0_uncalled_4 rfl (lv_at hl 2 rfl) ?_
    refine lv_aload_n X.1 X.2.1 dX0_uncalled_5 rfl (lv_at hl 0 rfl) ?_
    refine gf_X0_30 X S hi0 dX0_uncalled_6 ?_
    refine gf_X0_172 X S (by decide) dX0_uncalled_9 ?_
    refine lv_icmp_ge (tgt := 41) X.1 X.2.1 dX0_uncalled_12 (by decide) (fun c_1 => ?_) (fun c_1 => ?_)
    · have h := pz_t c_1 h
      refine lv_iconst (v := -1) X.1 X.2.1 dX0_uncalled_41 (by decide) ?_
      cases h
      exact r_iret X S dX0_uncalled_42
    have h := pz_f c_1 h
    refine lv_aload_n X.1 X.2.1 dX0_uncalled_15 rfl (lv_at hl 0 rfl) ?_
    refine lv_iload_n X.1 X.2.1 dX0_uncalled_16 rfl (lv_at hl 2 rfl) ?_
    obtain ⟨q_2, eq_2, h⟩ := pz_bd_e h
    refine r_Vi X S (c_X0_wasCalled hn hi0 eq_2) gd_X0_104 ⟨rfl, ny_X0_wasCalled⟩ ⟨rfl, rfl⟩ ⟨Nat.le_of_ble_eq_true rfl, Nat.le_of_ble_eq_true rfl⟩ (r_recv X S (ly_ok_0 hi0 S.2.2.2) rfl rfl) rfl rfl hl.1 (Nat.le_of_ble_eq_true rfl) dX0_uncalled_17 (fun H locs S => ?_)
    refine lv_if_eq (tgt := 26) X.1 X.2.1 dX0_uncalled_20 (by decide) (fun c_3 => ?_) (fun c_3 => ?_)
    · have h := pz_t c_3 h
      refine lv_iload_n X.1 X.2.1 dX0_uncalled_26 rfl (lv_at hl 1 rfl) ?_
      refine lv_if_ne (tgt := 32) X.1 X.2.1 dX0_uncalled_27 (by decide) (fun c_4 => ?_) (fun c_4 => ?_)
      · have h := pz_f c_4 h
        obtain ⟨x_5, ex_5⟩ : ∃ y : Int32, y = (a2 + (-1 : Int32)) := ⟨_, rfl⟩
        have h := pz_lt_e h ex_5
        refine lv_iinc (v := x_5) (lv' := [(2, .int x_5), (0, .ref (cx_b G + ly_loc 0 i0)), (3, .int a3)]) X.1 X.2.1 dX0_uncalled_32 hl (k := 1) rfl (by rw [ex_5]; rfl) (by decide) rfl (fun ls hl => ?_)
        exact w_X0_uncalled_L35 X hn hi0 ih h S (lv_sub hl [1, 0, 2] rfl)
      have h := pz_t c_4 h
      refine lv_iload_n X.1 X.2.1 dX0_uncalled_30 rfl (lv_at hl 2 rfl) ?_
      cases h
      exact r_iret X S dX0_uncalled_31
    have h := pz_f c_3 h
    refine lv_goto (tgt := 35) X.1 X.2.1 dX0_uncalled_23 (by decide) ?_
    exact w_X0_uncalled_L35 X hn hi0 ih h S (lv_sub hl [0, 1, 2] rfl)
def f_X0_uncalled (N n : Nat) (I : mm_T) (i0 : Nat) (p1 : Int32) : Option (Int32) := f_X0_uncalled_L4 N n I i0 p1 N p1 (0 : Int32)
set_option maxRecDepth 100000 in
set_option maxHeartbeats 4000000 in
theorem c_X0_uncalled {l : Launch} {G : cx_T} {N n : Nat} {I J : mm_T} {i0 : Nat} {p1 : Int32} (hn : 144 ≤ n) (hi0 : i0 < 9) {z : Int32} (h : f_X0_uncalled N n I i0 p1 = some z) : ct_m l G n yX0_uncalled cX0_uncalled 4 (some .int) ({ frames := 1, cells := 0, slots := 0, locals := 21 }) [.ref (cx_b G + ly_loc 0 i0), .int p1] I J (ct_qi G n I J z) := by
  refine ct_en (by decide) (Nat.le_of_ble_eq_true rfl) ?_
  intro p e s m args below meth c ls X S hl
  have X : cx_ok G p s m args meth c cX0_uncalled 4 RX0 (some .int) := X
  have hl : lv_has ls 4 [(0, .ref (cx_b G + ly_loc 0 i0)), (1, .int p1)] := hl
  unfold f_X0_uncalled at h
  refine lv_iload_n X.1 X.2.1 dX0_uncalled_0 rfl (lv_at hl 1 rfl) ?_
  refine lv_istore_n (lv' := [(2, .int p1), (0, .ref (cx_b G + ly_loc 0 i0)), (1, .int p1)]) X.1 X.2.1 dX0_uncalled_1 rfl hl (by decide) rfl (fun ls hl => ?_)
  refine lv_iconst (v := 0) X.1 X.2.1 dX0_uncalled_2 (by decide) ?_
  refine lv_istore_n (lv' := [(3, .int (0 : Int32)), (2, .int p1), (0, .ref (cx_b G + ly_loc 0 i0)), (1, .int p1)]) X.1 X.2.1 dX0_uncalled_3 rfl hl (by decide) rfl (fun ls hl => ?_)
  exact w_X0_uncalled_L4 X hn hi0 N h S (lv_sub hl [2, 1, 0] rfl)
def f_X0_callByChance_L10 (N n : Nat) (i0 : Nat) (p1 : Int32) : Nat → mm_T → Int32 → Int32 → Option (mm_T)
  | 0, _, _, _ => none
  | cnt + 1, I, a2, a3 => if a3 ≤ 0 then (some I) else (pz_lt ((a2 * (1103515245 : Int32)) + (12345 : Int32)) fun x_3 => pz_gd (decide (¬ a3 = 0)) <| pz_bd (f_X0_uncalled N n I i0 (((x_3.toUInt32 >>> ((9 : Int32).toUInt32 &&& Int32.toUInt32 31)).toInt32) - ((x_3.toUInt32 >>> ((9 : Int32).toUInt32 &&& Int32.toUInt32 31)).toInt32) / a3 * a3)) fun q_5 => pz_bd (f_X0_callSlip N n I i0 q_5) fun q_6 => pz_lt (a3 + (-1 : Int32)) fun x_7 => f_X0_callByChance_L10 N n i0 p1 cnt q_6 x_3 x_7)
set_option maxRecDepth 100000 in
set_option maxHeartbeats 4000000 in
theorem w_X0_callByChance_L10 {l : Launch} {G : cx_T} {p : Program} {e : Env} {s : State} {m : MethodId} {args : Array Value} {below : List Frame} {meth : Method} {c : Code} {N n : Nat} {J : mm_T} {i0 : Nat} {p1 : Int32} (X : cx_ok G p s m args meth c cX0_callByChance 4 RX0 none) (hn : 144 ≤ n) (hi0 : i0 < 9) {z : mm_T} : ∀ (cnt : Nat) {I : mm_T} {a2 : Int32} {a3 : Int32} {H : Heap} {locs : List Loc} {ls : Array Slot} , f_X0_callByChance_L10 N n i0 p1 cnt I a2 a3 = some z → st_ok G n I J s H locs → lv_has ls 4 [(0, .ref (cx_b G + ly_loc 0 i0)), (2, .int a2), (3, .int a3)] → W p l e ({ frames := 4, cells := 0, slots := 0, locals := 130 }) s m args below meth c H locs 0 0 (MQ below (ct_qv G n z J) args s 0 0 (cx_A G)) (F0 m 10 ls []) := by
  intro cnt
  induction cnt with
  | zero =>
    intro I a2 a3 H locs ls h
    rw [f_X0_callByChance_L10] at h
    cases h
  | succ cnt ih =>
    intro I a2 a3 H locs ls h S hl
    rw [f_X0_callByChance_L10] at h
    refine lv_iload_n X.1 X.2.1 dX0_callByChance_10 rfl (lv_at hl 2 rfl) ?_
    refine lv_if_le (tgt := 43) X.1 X.2.1 dX0_callByChance_11 (by decide) (fun c_2 => ?_) (fun c_2 => ?_)
    · have h := pz_t c_2 h
      cases h
      exact r_vret X S dX0_callByChance_43
    have h := pz_f c_2 h
    refine lv_iload_n X.1 X.2.1 dX0_callByChance_14 rfl (lv_at hl 1 rfl) ?_
    refine lv_ldc (v := 1103515245) X.1 X.2.1 X.2.2.2.1 (X.2.2.2.2.1 _ kw_X0_175) dX0_callByChance_15 ?_
    refine lv_imul X.1 X.2.1 dX0_callByChance_17 ?_
    refine lv_sipush (v := 12345) X.1 X.2.1 dX0_callByChance_18 (by decide) ?_
    refine lv_iadd X.1 X.2.1 dX0_callByChance_21 ?_
    refine lv_topi (fun x_3 ex_3 => ?_)
    have h := pz_lt_e h ex_3
    refine lv_istore_n (lv' := [(2, .int x_3), (0, .ref (cx_b G + ly_loc 0 i0)), (3, .int a3)]) X.1 X.2.1 dX0_callByChance_22 rfl hl (by decide) rfl (fun ls hl => ?_)
    refine lv_aload_n X.1 X.2.1 dX0_callByChance_23 rfl (lv_at hl 1 rfl) ?_
    refine lv_aload_n X.1 X.2.1 dX0_callByChance_24 rfl (lv_at hl 1 rfl) ?_
    refine lv_iload_n X.1 X.2.1 dX0_callByChance_25 rfl (lv_at hl 0 rfl) ?_
    refine lv_bipush (v := 9) X.1 X.2.1 dX0_callByChance_26 (by decide) ?_
    refine lv_iushr X.1 X.2.1 dX0_callByChance_28 rfl ?_
    refine lv_iload_n X.1 X.2.1 dX0_callByChance_29 rfl (lv_at hl 2 rfl) ?_
    obtain ⟨g_4, h⟩ := pz_gd_e h
    refine lv_irem X.1 X.2.1 dX0_callByChance_30 (of_decide_eq_true g_4) ?_
    obtain ⟨q_5, eq_5, h⟩ := pz_bd_e h
    refine r_Vi X S (c_X0_uncalled hn hi0 eq_5) gd_X0_176 ⟨rfl, ny_X0_uncalled⟩ ⟨rfl, rfl⟩ ⟨Nat.le_of_ble_eq_true rfl, Nat.le_of_ble_eq_true rfl⟩ (r_recv X S (ly_ok_0 hi0 S.2.2.2) rfl rfl) rfl rfl hl.1 (Nat.le_of_ble_eq_true rfl) dX0_callByChance_31 (fun H locs S => ?_)
    obtain ⟨q_6, eq_6, h⟩ := pz_bd_e h
    refine r_Vv X S (c_X0_callSlip hn hi0 eq_6) gd_X0_165 ⟨rfl, ny_X0_callSlip⟩ ⟨rfl, rfl⟩ ⟨Nat.le_of_ble_eq_true rfl, Nat.le_of_ble_eq_true rfl⟩ (r_recv X S (ly_ok_0 hi0 S.2.2.2) rfl rfl) rfl rfl hl.1 (Nat.le_of_ble_eq_true rfl) dX0_callByChance_34 (fun H locs S => ?_)
    obtain ⟨x_7, ex_7⟩ : ∃ y : Int32, y = (a3 + (-1 : Int32)) := ⟨_, rfl⟩
    have h := pz_lt_e h ex_7
    refine lv_iinc (v := x_7) (lv' := [(3, .int x_7), (2, .int x_3), (0, .ref (cx_b G + ly_loc 0 i0))]) X.1 X.2.1 dX0_callByChance_37 hl (k := 2) rfl (by rw [ex_7]; rfl) (by decide) rfl (fun ls hl => ?_)
    refine lv_goto (tgt := 10) X.1 X.2.1 dX0_callByChance_40 (by decide) ?_
    exact ih h S (lv_sub hl [2, 1, 0] rfl)
def f_X0_callByChance (N n : Nat) (I : mm_T) (i0 : Nat) (p1 : Int32) : Option (mm_T) := pz_lt (I 1 0 3) fun x_1 => f_X0_callByChance_L10 N n i0 p1 N I p1 x_1
set_option maxRecDepth 100000 in
set_option maxHeartbeats 4000000 in
theorem c_X0_callByChance {l : Launch} {G : cx_T} {N n : Nat} {I J : mm_T} {i0 : Nat} {p1 : Int32} (hn : 144 ≤ n) (hi0 : i0 < 9) {z : mm_T} (h : f_X0_callByChance N n I i0 p1 = some z) : ct_m l G n yX0_callByChance cX0_callByChance 4 none ({ frames := 4, cells := 0, slots := 0, locals := 130 }) [.ref (cx_b G + ly_loc 0 i0), .int p1] I J (ct_qv G n z J) := by
  refine ct_en (by decide) (Nat.le_of_ble_eq_true rfl) ?_
  intro p e s m args below meth c ls X S hl
  have X : cx_ok G p s m args meth c cX0_callByChance 4 RX0 none := X
  have hl : lv_has ls 4 [(0, .ref (cx_b G + ly_loc 0 i0)), (1, .int p1)] := hl
  unfold f_X0_callByChance at h
  refine lv_iload_n X.1 X.2.1 dX0_callByChance_0 rfl (lv_at hl 1 rfl) ?_
  refine lv_istore_n (lv' := [(2, .int p1), (0, .ref (cx_b G + ly_loc 0 i0)), (1, .int p1)]) X.1 X.2.1 dX0_callByChance_1 rfl hl (by decide) rfl (fun ls hl => ?_)
  refine lv_aload_n X.1 X.2.1 dX0_callByChance_2 rfl (lv_at hl 1 rfl) ?_
  refine gf_X0_30 X S hi0 dX0_callByChance_3 ?_
  refine gf_X0_172 X S (by decide) dX0_callByChance_6 ?_
  refine lv_topi (fun x_1 ex_1 => ?_)
  have h := pz_lt_e h ex_1
  refine lv_istore_n (lv' := [(3, .int x_1), (2, .int p1), (0, .ref (cx_b G + ly_loc 0 i0)), (1, .int p1)]) X.1 X.2.1 dX0_callByChance_9 rfl hl (by decide) rfl (fun ls hl => ?_)
  exact w_X0_callByChance_L10 X hn hi0 N h S (lv_sub hl [2, 1, 0] rfl)
def f_X4_note (N n : Nat) (I : mm_T) (p1 : Int32) (i2 : Nat) (p3 : Int32) : Option (mm_T) := pz_gd (ix_in p1 2) <| pz_lt (mm_up I 22 0 p1.toNatClampNeg (I 0 i2 12)) fun I_2 => pz_gd (ix_in p1 2) <| pz_lt (mm_up I_2 23 0 p1.toNatClampNeg (I_2 0 i2 13)) fun I_4 => pz_gd (ix_in p1 2) <| pz_lt (mm_up I_4 24 0 p1.toNatClampNeg (I_4 0 i2 14)) fun I_6 => pz_gd (ix_in p1 2) <| pz_lt (mm_up I_6 25 0 p1.toNatClampNeg p3) fun I_8 => some I_8
set_option maxRecDepth 100000 in
set_option maxHeartbeats 4000000 in
theorem c_X4_note {l : Launch} {G : cx_T} {N n : Nat} {I J : mm_T} {p1 : Int32} {i2 : Nat} {p3 : Int32} (hn : 144 ≤ n) (hi2 : i2 < 9) {z : mm_T} (h : f_X4_note N n I p1 i2 p3 = some z) : ct_m l G n yX4_note cX4_note 4 none ({ frames := 0, cells := 0, slots := 0, locals := 0 }) [.ref (cx_b G + ly_loc 4 0), .int p1, .ref (cx_b G + ly_loc 0 i2), .int p3] I J (ct_qv G n z J) := by
  refine ct_en (by decide) (Nat.le_of_ble_eq_true rfl) ?_
  intro p e s m args below meth c ls X S hl
  have X : cx_ok G p s m args meth c cX4_note 4 RX4 none := X
  have hl : lv_has ls 4 [(0, .ref (cx_b G + ly_loc 4 0)), (1, .int p1), (2, .ref (cx_b G + ly_loc 0 i2)), (3, .int p3)] := hl
  unfold f_X4_note at h
  refine lv_aload_n X.1 X.2.1 dX4_note_0 rfl (lv_at hl 0 rfl) ?_
  refine gf_X4_17 X S (by decide) dX4_note_1 ?_
  refine lv_iload_n X.1 X.2.1 dX4_note_4 rfl (lv_at hl 1 rfl) ?_
  refine lv_aload_n X.1 X.2.1 dX4_note_5 rfl (lv_at hl 2 rfl) ?_
  refine gf_X4_58 X S hi2 dX4_note_6 ?_
  obtain ⟨g_1, h⟩ := pz_gd_e h
  refine as_22 X S (by decide) g_1 dX4_note_9 (fun I_2 H locs eI_2 S => ?_)
  have h := pz_lt_e h eI_2
  refine lv_aload_n X.1 X.2.1 dX4_note_10 rfl (lv_at hl 0 rfl) ?_
  refine gf_X4_21 X S (by decide) dX4_note_11 ?_
  refine lv_iload_n X.1 X.2.1 dX4_note_14 rfl (lv_at hl 1 rfl) ?_
  refine lv_aload_n X.1 X.2.1 dX4_note_15 rfl (lv_at hl 2 rfl) ?_
  refine gf_X4_61 X S hi2 dX4_note_16 ?_
  obtain ⟨g_3, h⟩ := pz_gd_e h
  refine as_23 X S (by decide) g_3 dX4_note_19 (fun I_4 H locs eI_4 S => ?_)
  have h := pz_lt_e h eI_4
  refine lv_aload_n X.1 X.2.1 dX4_note_20 rfl (lv_at hl 0 rfl) ?_
  refine gf_X4_24 X S (by decide) dX4_note_21 ?_
  refine lv_iload_n X.1 X.2.1 dX4_note_24 rfl (lv_at hl 1 rfl) ?_
  refine lv_aload_n X.1 X.2.1 dX4_note_25 rfl (lv_at hl 2 rfl) ?_
  refine gf_X4_63 X S hi2 dX4_note_26 ?_
  obtain ⟨g_5, h⟩ := pz_gd_e h
  refine as_24 X S (by decide) g_5 dX4_note_29 (fun I_6 H locs eI_6 S => ?_)
  have h := pz_lt_e h eI_6
  refine lv_aload_n X.1 X.2.1 dX4_note_30 rfl (lv_at hl 0 rfl) ?_
  refine gf_X4_27 X S (by decide) dX4_note_31 ?_
  refine lv_iload_n X.1 X.2.1 dX4_note_34 rfl (lv_at hl 1 rfl) ?_
  refine lv_iload_n X.1 X.2.1 dX4_note_35 rfl (lv_at hl 3 rfl) ?_
  obtain ⟨g_7, h⟩ := pz_gd_e h
  refine as_25 X S (by decide) g_7 dX4_note_36 (fun I_8 H locs eI_8 S => ?_)
  have h := pz_lt_e h eI_8
  cases h
  exact r_vret X S dX4_note_37
def f_X4_losesFewer (N n : Nat) (I : mm_T) (i1 : Nat) : Option (Int32) := if (I 0 i1 13) < (I 23 0 (1 : Int32).toNatClampNeg) then (some (1 : Int32)) else (if (I 0 i1 13) = (I 23 0 (1 : Int32).toNatClampNeg) then (if (I 0 i1 14) ≤ (I 24 0 (1 : Int32).toNatClampNeg) then (some (0 : Int32)) else (some (1 : Int32))) else (some (0 : Int32)))
set_option maxRecDepth 100000 in
set_option maxHeartbeats 4000000 in
theorem c_X4_losesFewer {l : Launch} {G : cx_T} {N n : Nat} {I J : mm_T} {i1 : Nat} (hn : 144 ≤ n) (hi1 : i1 < 9) {z : Int32} (h : f_X4_losesFewer N n I i1 = some z) : ct_m l G n yX4_losesFewer cX4_losesFewer 2 (some .boolean) ({ frames := 0, cells := 0, slots := 0, locals := 0 }) [.ref (cx_b G + ly_loc 4 0), .ref (cx_b G + ly_loc 0 i1)] I J (ct_qi G n I J z) := by
  refine ct_en (by decide) (Nat.le_of_ble_eq_true rfl) ?_
  intro p e s m args below meth c ls X S hl
  have X : cx_ok G p s m args meth c cX4_losesFewer 2 RX4 (some .boolean) := X
  have hl : lv_has ls 2 [(0, .ref (cx_b G + ly_loc 4 0)), (1, .ref (cx_b G + ly_loc 0 i1))] := hl
  unfold f_X4_losesFewer at h
  refine lv_aload_n X.1 X.2.1 dX4_losesFewer_0 rfl (lv_at hl 1 rfl) ?_
  refine gf_X4_61 X S hi1 dX4_losesFewer_1 ?_
  refine lv_aload_n X.1 X.2.1 dX4_losesFewer_4 rfl (lv_at hl 0 rfl) ?_
  refine gf_X4_21 X S (by decide) dX4_losesFewer_5 ?_
  refine lv_iconst (v := 1) X.1 X.2.1 dX4_losesFewer_8 (by decide) ?_
  refine al_23 X S (by decide) (by decide) dX4_losesFewer_9 ?_
  refine lv_icmp_lt (tgt := 39) X.1 X.2.1 dX4_losesFewer_10 (by decide) (fun c_1 => ?_) (fun c_1 => ?_)
  · have h := pz_t c_1 h
    refine lv_iconst (v := 1) X.1 X.2.1 dX4_losesFewer_39 (by decide) ?_
    refine lv_goto (tgt := 44) X.1 X.2.1 dX4_losesFewer_40 (by decide) ?_
    cases h
    exact r_zret (v := 1) X S rfl dX4_losesFewer_44
  have h := pz_f c_1 h
  refine lv_aload_n X.1 X.2.1 dX4_losesFewer_13 rfl (lv_at hl 1 rfl) ?_
  refine gf_X4_61 X S hi1 dX4_losesFewer_14 ?_
  refine lv_aload_n X.1 X.2.1 dX4_losesFewer_17 rfl (lv_at hl 0 rfl) ?_
  refine gf_X4_21 X S (by decide) dX4_losesFewer_18 ?_
  refine lv_iconst (v := 1) X.1 X.2.1 dX4_losesFewer_21 (by decide) ?_
  refine al_23 X S (by decide) (by decide) dX4_losesFewer_22 ?_
  refine lv_icmp_ne (tgt := 43) X.1 X.2.1 dX4_losesFewer_23 (by decide) (fun c_2 => ?_) (fun c_2 => ?_)
  · have h := pz_f c_2 h
    refine lv_iconst (v := 0) X.1 X.2.1 dX4_losesFewer_43 (by decide) ?_
    cases h
    exact r_zret (v := 0) X S rfl dX4_losesFewer_44
  have h := pz_t c_2 h
  refine lv_aload_n X.1 X.2.1 dX4_losesFewer_26 rfl (lv_at hl 1 rfl) ?_
  refine gf_X4_63 X S hi1 dX4_losesFewer_27 ?_
  refine lv_aload_n X.1 X.2.1 dX4_losesFewer_30 rfl (lv_at hl 0 rfl) ?_
  refine gf_X4_24 X S (by decide) dX4_losesFewer_31 ?_
  refine lv_iconst (v := 1) X.1 X.2.1 dX4_losesFewer_34 (by decide) ?_
  refine al_24 X S (by decide) (by decide) dX4_losesFewer_35 ?_
  refine lv_icmp_le (tgt := 43) X.1 X.2.1 dX4_losesFewer_36 (by decide) (fun c_3 => ?_) (fun c_3 => ?_)
  · have h := pz_t c_3 h
    refine lv_iconst (v := 0) X.1 X.2.1 dX4_losesFewer_43 (by decide) ?_
    cases h
    exact r_zret (v := 0) X S rfl dX4_losesFewer_44
  have h := pz_f c_3 h
  refine lv_iconst (v := 1) X.1 X.2.1 dX4_losesFewer_39 (by decide) ?_
  refine lv_goto (tgt := 44) X.1 X.2.1 dX4_losesFewer_40 (by decide) ?_
  cases h
  exact r_zret (v := 1) X S rfl dX4_losesFewer_44
def f_X4_goOn_L126 (N n : Nat) (rc : Nat → mm_T → Int32 → Int32 → Option (mm_T)) (p1 : Int32) (p2 : Int32) (k24 : mm_T → Int32 → Int32 → Nat → Int32 → Option (mm_T)) (I : mm_T) (a1 : Int32) (a2 : Int32) (a3 : Nat) (a4 : Int32) : Option (mm_T) := pz_lt (a4 + (1 : Int32)) fun x_16 => k24 I a1 a2 a3 x_16
set_option maxRecDepth 100000 in
set_option maxHeartbeats 4000000 in
theorem w_X4_goOn_L126 {l : Launch} {G : cx_T} {p : Program} {e : Env} {s : State} {m : MethodId} {args : Array Value} {below : List Frame} {meth : Method} {c : Code} {N n : Nat} {d : Nat} {rc : Nat → mm_T → Int32 → Int32 → Option (mm_T)} {J : mm_T} {p1 : Int32} {p2 : Int32} (X : cx_ok G p s m args meth c cX4_goOn 6 RX4 none) (hn : 144 ≤ n) (hrc_X4_goOn : ∀ {I J : mm_T} {p1 : Int32} {p2 : Int32} {z : mm_T}, 144 ≤ n → rc 0 I p1 p2 = some z → ct_m l G n yX4_goOn cX4_goOn 6 none ({ frames := 4 + d, cells := 0, slots := 0, locals := 130 + 40 * d }) [.ref (cx_b G + ly_loc 4 0), .int p1, .int p2] I J (ct_qv G n z J)) {k24 : mm_T → Int32 → Int32 → Nat → Int32 → Option (mm_T)} {z : mm_T} (K24 : ∀ {I : mm_T} {a1 : Int32} {a2 : Int32} {a3 : Nat} {a4 : Int32} {H : Heap} {locs : List Loc} {ls : Array Slot}, k24 I a1 a2 a3 a4 = some z → (ha3 : a3 < 9) → st_ok G n I J s H locs → lv_has ls 6 [(0, .ref (cx_b G + ly_loc 4 0)), (1, .int a1), (2, .int a2), (3, .ref (cx_b G + ly_loc 0 a3)), (4, .int a4)] → W p l e ({ frames := 4 + (d + 1), cells := 0, slots := 0, locals := 130 + 40 * (d + 1) }) s m args below meth c H locs 0 0 (MQ below (ct_qv G n z J) args s 0 0 (cx_A G)) (F0 m 24 ls [])) {I : mm_T} {a1 : Int32} {a2 : Int32} {a3 : Nat} {a4 : Int32} {H : Heap} {locs : List Loc} {ls : Array Slot} (h : f_X4_goOn_L126 N n rc p1 p2 k24 I a1 a2 a3 a4 = some z) (ha3 : a3 < 9) (S : st_ok G n I J s H locs) (hl : lv_has ls 6 [(0, .ref (cx_b G + ly_loc 4 0)), (1, .int a1), (2, .int a2), (3, .ref (cx_b G + ly_loc 0 a3)), (4, .int a4)]) : W p l e ({ frames := 4 + (d + 1), cells := 0, slots := 0, locals := 130 + 40 * (d + 1) }) s m args below meth c H locs 0 0 (MQ below (ct_qv G n z J) args s 0 0 (cx_A G)) (F0 m 126 ls []) := by
  unfold f_X4_goOn_L126 at h
  obtain ⟨x_16, ex_16⟩ : ∃ y : Int32, y = (a4 + (1 : Int32)) := ⟨_, rfl⟩
  have h := pz_lt_e h ex_16
  refine lv_iinc (v := x_16) (lv' := [(4, .int x_16), (0, .ref (cx_b G + ly_loc 4 0)), (1, .int a1), (2, .int a2), (3, .ref (cx_b G + ly_loc 0 a3))]) X.1 X.2.1 dX4_goOn_126 hl (k := 4) rfl (by rw [ex_16]; rfl) (by decide) rfl (fun ls hl => ?_)
  refine lv_goto (tgt := 24) X.1 X.2.1 dX4_goOn_129 (by decide) ?_
  exact K24 h ha3 S (lv_sub hl [1, 2, 3, 4, 0] rfl)
def f_X4_goOn_L117 (N n : Nat) (rc : Nat → mm_T → Int32 → Int32 → Option (mm_T)) (p1 : Int32) (p2 : Int32) (k24 : mm_T → Int32 → Int32 → Nat → Int32 → Option (mm_T)) (I : mm_T) (a1 : Int32) (a2 : Int32) (a3 : Nat) (a4 : Int32) (a5 : Int32) : Option (mm_T) := pz_bd (rc 0 I (a1 + (1 : Int32)) a5) fun q_17 => f_X4_goOn_L126 N n rc p1 p2 k24 q_17 a1 a2 a3 a4
set_option maxRecDepth 100000 in
set_option maxHeartbeats 4000000 in
theorem w_X4_goOn_L117 {l : Launch} {G : cx_T} {p : Program} {e : Env} {s : State} {m : MethodId} {args : Array Value} {below : List Frame} {meth : Method} {c : Code} {N n : Nat} {d : Nat} {rc : Nat → mm_T → Int32 → Int32 → Option (mm_T)} {J : mm_T} {p1 : Int32} {p2 : Int32} (X : cx_ok G p s m args meth c cX4_goOn 6 RX4 none) (hn : 144 ≤ n) (hrc_X4_goOn : ∀ {I J : mm_T} {p1 : Int32} {p2 : Int32} {z : mm_T}, 144 ≤ n → rc 0 I p1 p2 = some z → ct_m l G n yX4_goOn cX4_goOn 6 none ({ frames := 4 + d, cells := 0, slots := 0, locals := 130 + 40 * d }) [.ref (cx_b G + ly_loc 4 0), .int p1, .int p2] I J (ct_qv G n z J)) {k24 : mm_T → Int32 → Int32 → Nat → Int32 → Option (mm_T)} {z : mm_T} (K24 : ∀ {I : mm_T} {a1 : Int32} {a2 : Int32} {a3 : Nat} {a4 : Int32} {H : Heap} {locs : List Loc} {ls : Array Slot}, k24 I a1 a2 a3 a4 = some z → (ha3 : a3 < 9) → st_ok G n I J s H locs → lv_has ls 6 [(0, .ref (cx_b G + ly_loc 4 0)), (1, .int a1), (2, .int a2), (3, .ref (cx_b G + ly_loc 0 a3)), (4, .int a4)] → W p l e ({ frames := 4 + (d + 1), cells := 0, slots := 0, locals := 130 + 40 * (d + 1) }) s m args below meth c H locs 0 0 (MQ below (ct_qv G n z J) args s 0 0 (cx_A G)) (F0 m 24 ls [])) {I : mm_T} {a1 : Int32} {a2 : Int32} {a3 : Nat} {a4 : Int32} {a5 : Int32} {H : Heap} {locs : List Loc} {ls : Array Slot} (h : f_X4_goOn_L117 N n rc p1 p2 k24 I a1 a2 a3 a4 a5 = some z) (ha3 : a3 < 9) (S : st_ok G n I J s H locs) (hl : lv_has ls 6 [(0, .ref (cx_b G + ly_loc 4 0)), (1, .int a1), (2, .int a2), (3, .ref (cx_b G + ly_loc 0 a3)), (4, .int a4), (5, .int a5)]) : W p l e ({ frames := 4 + (d + 1), cells := 0, slots := 0, locals := 130 + 40 * (d + 1) }) s m args below meth c H locs 0 0 (MQ below (ct_qv G n z J) args s 0 0 (cx_A G)) (F0 m 117 ls []) := by
  unfold f_X4_goOn_L117 at h
  refine lv_aload_n X.1 X.2.1 dX4_goOn_117 rfl (lv_at hl 0 rfl) ?_
  refine lv_iload_n X.1 X.2.1 dX4_goOn_118 rfl (lv_at hl 1 rfl) ?_
  refine lv_iconst (v := 1) X.1 X.2.1 dX4_goOn_119 (by decide) ?_
  refine lv_iadd X.1 X.2.1 dX4_goOn_120 ?_
  refine lv_iload X.1 X.2.1 dX4_goOn_121 (lv_at hl 5 rfl) ?_
  obtain ⟨q_17, eq_17, h⟩ := pz_bd_e h
  refine r_Vv X S (hrc_X4_goOn hn eq_17) gd_X4_54 ⟨rfl, ny_X4_goOn⟩ ⟨rfl, rfl⟩ ⟨by dsimp only; omega, by dsimp only; omega⟩ (r_recv X S (ly_ok_4 (by decide) S.2.2.2) rfl rfl) rfl rfl hl.1 (Nat.le_of_ble_eq_true rfl) dX4_goOn_123 (fun H locs S => ?_)
  exact w_X4_goOn_L126 X hn hrc_X4_goOn K24 h ha3 S (lv_sub hl [0, 1, 2, 3, 4] rfl)
def f_X4_goOn_L101 (N n : Nat) (rc : Nat → mm_T → Int32 → Int32 → Option (mm_T)) (p1 : Int32) (p2 : Int32) (k24 : mm_T → Int32 → Int32 → Nat → Int32 → Option (mm_T)) (I : mm_T) (a1 : Int32) (a2 : Int32) (a3 : Nat) (a4 : Int32) (a5 : Int32) : Option (mm_T) := pz_bd (f_X4_losesFewer N n I a3) fun q_13 => if q_13 = 0 then (f_X4_goOn_L117 N n rc p1 p2 k24 I a1 a2 a3 a4 a5) else (pz_bd (f_X4_note N n I (1 : Int32) a3 a5) fun q_15 => f_X4_goOn_L117 N n rc p1 p2 k24 q_15 a1 a2 a3 a4 a5)
set_option maxRecDepth 100000 in
set_option maxHeartbeats 4000000 in
theorem w_X4_goOn_L101 {l : Launch} {G : cx_T} {p : Program} {e : Env} {s : State} {m : MethodId} {args : Array Value} {below : List Frame} {meth : Method} {c : Code} {N n : Nat} {d : Nat} {rc : Nat → mm_T → Int32 → Int32 → Option (mm_T)} {J : mm_T} {p1 : Int32} {p2 : Int32} (X : cx_ok G p s m args meth c cX4_goOn 6 RX4 none) (hn : 144 ≤ n) (hrc_X4_goOn : ∀ {I J : mm_T} {p1 : Int32} {p2 : Int32} {z : mm_T}, 144 ≤ n → rc 0 I p1 p2 = some z → ct_m l G n yX4_goOn cX4_goOn 6 none ({ frames := 4 + d, cells := 0, slots := 0, locals := 130 + 40 * d }) [.ref (cx_b G + ly_loc 4 0), .int p1, .int p2] I J (ct_qv G n z J)) {k24 : mm_T → Int32 → Int32 → Nat → Int32 → Option (mm_T)} {z : mm_T} (K24 : ∀ {I : mm_T} {a1 : Int32} {a2 : Int32} {a3 : Nat} {a4 : Int32} {H : Heap} {locs : List Loc} {ls : Array Slot}, k24 I a1 a2 a3 a4 = some z → (ha3 : a3 < 9) → st_ok G n I J s H locs → lv_has ls 6 [(0, .ref (cx_b G + ly_loc 4 0)), (1, .int a1), (2, .int a2), (3, .ref (cx_b G + ly_loc 0 a3)), (4, .int a4)] → W p l e ({ frames := 4 + (d + 1), cells := 0, slots := 0, locals := 130 + 40 * (d + 1) }) s m args below meth c H locs 0 0 (MQ below (ct_qv G n z J) args s 0 0 (cx_A G)) (F0 m 24 ls [])) {I : mm_T} {a1 : Int32} {a2 : Int32} {a3 : Nat} {a4 : Int32} {a5 : Int32} {H : Heap} {locs : List Loc} {ls : Array Slot} (h : f_X4_goOn_L101 N n rc p1 p2 k24 I a1 a2 a3 a4 a5 = some z) (ha3 : a3 < 9) (S : st_ok G n I J s H locs) (hl : lv_has ls 6 [(0, .ref (cx_b G + ly_loc 4 0)), (1, .int a1), (2, .int a2), (3, .ref (cx_b G + ly_loc 0 a3)), (4, .int a4), (5, .int a5)]) : W p l e ({ frames := 4 + (d + 1), cells := 0, slots := 0, locals := 130 + 40 * (d + 1) }) s m args below meth c H locs 0 0 (MQ below (ct_qv G n z J) args s 0 0 (cx_A G)) (F0 m 101 ls []) := by
  unfold f_X4_goOn_L101 at h
  refine lv_aload_n X.1 X.2.1 dX4_goOn_101 rfl (lv_at hl 0 rfl) ?_
  refine lv_aload_n X.1 X.2.1 dX4_goOn_102 rfl (lv_at hl 3 rfl) ?_
  obtain ⟨q_13, eq_13, h⟩ := pz_bd_e h
  refine r_Vi X S (c_X4_losesFewer hn ha3 eq_13) gd_X4_80 ⟨rfl, ny_X4_losesFewer⟩ ⟨rfl, rfl⟩ ⟨by dsimp only; omega, by dsimp only; omega⟩ (r_recv X S (ly_ok_4 (by decide) S.2.2.2) rfl rfl) rfl rfl hl.1 (Nat.le_of_ble_eq_true rfl) dX4_goOn_103 (fun H locs S => ?_)
  refine lv_if_eq (tgt := 117) X.1 X.2.1 dX4_goOn_106 (by decide) (fun c_14 => ?_) (fun c_14 => ?_)
  · have h := pz_t c_14 h
    exact w_X4_goOn_L117 X hn hrc_X4_goOn K24 h ha3 S (lv_sub hl [0, 1, 2, 3, 4, 5] rfl)
  have h := pz_f c_14 h
  refine lv_aload_n X.1 X.2.1 dX4_goOn_109 rfl (lv_at hl 0 rfl) ?_
  refine lv_iconst (v := 1) X.1 X.2.1 dX4_goOn_110 (by decide) ?_
  refine lv_aload_n X.1 X.2.1 dX4_goOn_111 rfl (lv_at hl 3 rfl) ?_
  refine lv_iload X.1 X.2.1 dX4_goOn_112 (lv_at hl 5 rfl) ?_
  obtain ⟨q_15, eq_15, h⟩ := pz_bd_e h
  refine r_Vv X S (c_X4_note hn ha3 eq_15) gd_X4_50 ⟨rfl, ny_X4_note⟩ ⟨rfl, rfl⟩ ⟨by dsimp only; omega, by dsimp only; omega⟩ (r_recv X S (ly_ok_4 (by decide) S.2.2.2) rfl rfl) rfl rfl hl.1 (Nat.le_of_ble_eq_true rfl) dX4_goOn_114 (fun H locs S => ?_)
  exact w_X4_goOn_L117 X hn hrc_X4_goOn K24 h ha3 S (lv_sub hl [0, 1, 2, 3, 4, 5] rfl)
def f_X4_goOn_L24 (N n : Nat) (rc : Nat → mm_T → Int32 → Int32 → Option (mm_T)) (p1 : Int32) (p2 : Int32) : Nat → mm_T → Int32 → Int32 → Nat → Int32 → Option (mm_T)
  | 0, _, _, _, _, _ => none
  | cnt + 1, I, a1, a2, a3, a4 => if (I 1 0 3) ≤ a4 then (some I) else (pz_gd (ix_in a1 8) <| pz_bd (f_X0_wasCalled N n I (a1.toNatClampNeg + 1) a4) fun q_5 => if q_5 = 0 then (pz_gd (ix_in a1 8) <| pz_bd (f_X0_goOnFrom N n I a3 (a1.toNatClampNeg + 1)) fun q_8 => pz_bd (f_X0_callSlip N n q_8 a3 a4) fun q_9 => pz_lt (((a2 * (10 : Int32)) + a4) + (1 : Int32)) fun x_10 => if (q_9 0 a3 12) ≤ (q_9 22 0 (0 : Int32).toNatClampNeg) then (f_X4_goOn_L101 N n rc p1 p2 (f_X4_goOn_L24 N n rc p1 p2 cnt) q_9 a1 a2 a3 a4 x_10) else (pz_bd (f_X4_note N n q_9 (0 : Int32) a3 x_10) fun q_12 => f_X4_goOn_L101 N n rc p1 p2 (f_X4_goOn_L24 N n rc p1 p2 cnt) q_12 a1 a2 a3 a4 x_10)) else (f_X4_goOn_L126 N n rc p1 p2 (f_X4_goOn_L24 N n rc p1 p2 cnt) I a1 a2 a3 a4))
set_option maxRecDepth 100000 in
set_option maxHeartbeats 4000000 in
theorem w_X4_goOn_L24 {l : Launch} {G : cx_T} {p : Program} {e : Env} {s : State} {m : MethodId} {args : Array Value} {below : List Frame} {meth : Method} {c : Code} {N n : Nat} {d : Nat} {rc : Nat → mm_T → Int32 → Int32 → Option (mm_T)} {J : mm_T} {p1 : Int32} {p2 : Int32} (X : cx_ok G p s m args meth c cX4_goOn 6 RX4 none) (hn : 144 ≤ n) (hrc_X4_goOn : ∀ {I J : mm_T} {p1 : Int32} {p2 : Int32} {z : mm_T}, 144 ≤ n → rc 0 I p1 p2 = some z → ct_m l G n yX4_goOn cX4_goOn 6 none ({ frames := 4 + d, cells := 0, slots := 0, locals := 130 + 40 * d }) [.ref (cx_b G + ly_loc 4 0), .int p1, .int p2] I J (ct_qv G n z J)) {z : mm_T} : ∀ (cnt : Nat) {I : mm_T} {a1 : Int32} {a2 : Int32} {a3 : Nat} {a4 : Int32} {H : Heap} {locs : List Loc} {ls : Array Slot} , f_X4_goOn_L24 N n rc p1 p2 cnt I a1 a2 a3 a4 = some z → (ha3 : a3 < 9) → st_ok G n I J s H locs → lv_has ls 6 [(0, .ref (cx_b G + ly_loc 4 0)), (1, .int a1), (2, .int a2), (3, .ref (cx_b G + ly_loc 0 a3)), (4, .int a4)] → W p l e ({ frames := 4 + (d + 1), cells := 0, slots := 0, locals := 130 + 40 * (d + 1) }) s m args below meth c H locs 0 0 (MQ below (ct_qv G n z J) args s 0 0 (cx_A G)) (F0 m 24 ls []) := by
  intro cnt
  induction cnt with
  | zero =>
    intro I a1 a2 a3 a4 H locs ls h
    rw [f_X4_goOn_L24] at h
    cases h
  | succ cnt ih =>
    intro I a1 a2 a3 a4 H locs ls h ha3 S hl
    rw [f_X4_goOn_L24] at h
    refine lv_iload X.1 X.2.1 dX4_goOn_24 (lv_at hl 4 rfl) ?_
    refine lv_aload_n X.1 X.2.1 dX4_goOn_26 rfl (lv_at hl 0 rfl) ?_
    refine gf_X4_34 X S (by decide) dX4_goOn_27 ?_
    refine gf_X4_65 X S (by decide) dX4_goOn_30 ?_
    refine lv_icmp_ge (tgt := 132) X.1 X.2.1 dX4_goOn_33 (by decide) (fun c_3 => ?_) (fun c_3 => ?_)
    · have h := pz_t c_3 h
      cases h
      exact r_vret X S dX4_goOn_132
    have h := pz_f c_3 h
    refine lv_aload_n X.1 X.2.1 dX4_goOn_36 rfl (lv_at hl 0 rfl) ?_
    refine gf_X4_11 X S (by decide) dX4_goOn_37 ?_
    refine lv_iload_n X.1 X.2.1 dX4_goOn_40 rfl (lv_at hl 1 rfl) ?_
    obtain ⟨g_4, h⟩ := pz_gd_e h
    refine aa_21 X S (by decide) g_4 dX4_goOn_41 ?_
    refine lv_iload X.1 X.2.1 dX4_goOn_42 (lv_at hl 4 rfl) ?_
    obtain ⟨q_5, eq_5, h⟩ := pz_bd_e h
    refine r_Vi X S (c_X0_wasCalled hn (el_21 g_4) eq_5) gd_X4_68 ⟨rfl, ny_X0_wasCalled⟩ ⟨rfl, rfl⟩ ⟨by dsimp only; omega, by dsimp only; omega⟩ (r_recv X S (ly_ok_0 (el_21 g_4) S.2.2.2) rfl rfl) rfl rfl hl.1 (Nat.le_of_ble_eq_true rfl) dX4_goOn_44 (fun H locs S => ?_)
    refine lv_if_eq (tgt := 53) X.1 X.2.1 dX4_goOn_47 (by decide) (fun c_6 => ?_) (fun c_6 => ?_)
    · have h := pz_t c_6 h
      refine lv_aload_n X.1 X.2.1 dX4_goOn_53 rfl (lv_at hl 3 rfl) ?_
      refine lv_aload_n X.1 X.2.1 dX4_goOn_54 rfl (lv_at hl 0 rfl) ?_
      refine gf_X4_11 X S (by decide) dX4_goOn_55 ?_
      refine lv_iload_n X.1 X.2.1 dX4_goOn_58 rfl (lv_at hl 1 rfl) ?_
      obtain ⟨g_7, h⟩ := pz_gd_e h
      refine aa_21 X S (by decide) g_7 dX4_goOn_59 ?_
      obtain ⟨q_8, eq_8, h⟩ := pz_bd_e h
      refine r_Vv X S (c_X0_goOnFrom hn ha3 (el_21 g_7) eq_8) gd_X4_72 ⟨rfl, ny_X0_goOnFrom⟩ ⟨rfl, rfl⟩ ⟨by dsimp only; omega, by dsimp only; omega⟩ (r_recv X S (ly_ok_0 ha3 S.2.2.2) rfl rfl) rfl rfl hl.1 (Nat.le_of_ble_eq_true rfl) dX4_goOn_60 (fun H locs S => ?_)
      refine lv_aload_n X.1 X.2.1 dX4_goOn_63 rfl (lv_at hl 3 rfl) ?_
      refine lv_iload X.1 X.2.1 dX4_goOn_64 (lv_at hl 4 rfl) ?_
      obtain ⟨q_9, eq_9, h⟩ := pz_bd_e h
      refine r_Vv X S (c_X0_callSlip hn ha3 eq_9) gd_X4_76 ⟨rfl, ny_X0_callSlip⟩ ⟨rfl, rfl⟩ ⟨by dsimp only; omega, by dsimp only; omega⟩ (r_recv X S (ly_ok_0 ha3 S.2.2.2) rfl rfl) rfl rfl hl.1 (Nat.le_of_ble_eq_true rfl) dX4_goOn_66 (fun H locs S => ?_)
      refine lv_iload_n X.1 X.2.1 dX4_goOn_69 rfl (lv_at hl 2 rfl) ?_
      refine lv_bipush (v := 10) X.1 X.2.1 dX4_goOn_70 (by decide) ?_
      refine lv_imul X.1 X.2.1 dX4_goOn_72 ?_
      refine lv_iload X.1 X.2.1 dX4_goOn_73 (lv_at hl 4 rfl) ?_
      refine lv_iadd X.1 X.2.1 dX4_goOn_75 ?_
      refine lv_iconst (v := 1) X.1 X.2.1 dX4_goOn_76 (by decide) ?_
      refine lv_iadd X.1 X.2.1 dX4_goOn_77 ?_
      refine lv_topi (fun x_10 ex_10 => ?_)
      have h := pz_lt_e h ex_10
      refine lv_istore (lv' := [(5, .int x_10), (0, .ref (cx_b G + ly_loc 4 0)), (1, .int a1), (2, .int a2), (3, .ref (cx_b G + ly_loc 0 a3)), (4, .int a4)]) X.1 X.2.1 dX4_goOn_78 hl (by decide) rfl (fun ls hl => ?_)
      refine lv_aload_n X.1 X.2.1 dX4_goOn_80 rfl (lv_at hl 4 rfl) ?_
      refine gf_X4_58 X S ha3 dX4_goOn_81 ?_
      refine lv_aload_n X.1 X.2.1 dX4_goOn_84 rfl (lv_at hl 1 rfl) ?_
      refine gf_X4_17 X S (by decide) dX4_goOn_85 ?_
      refine lv_iconst (v := 0) X.1 X.2.1 dX4_goOn_88 (by decide) ?_
      refine al_22 X S (by decide) (by decide) dX4_goOn_89 ?_
      refine lv_icmp_le (tgt := 101) X.1 X.2.1 dX4_goOn_90 (by decide) (fun c_11 => ?_) (fun c_11 => ?_)
      · have h := pz_t c_11 h
        exact w_X4_goOn_L101 X hn hrc_X4_goOn ih h ha3 S (lv_sub hl [1, 2, 3, 4, 5, 0] rfl)
      have h := pz_f c_11 h
      refine lv_aload_n X.1 X.2.1 dX4_goOn_93 rfl (lv_at hl 1 rfl) ?_
      refine lv_iconst (v := 0) X.1 X.2.1 dX4_goOn_94 (by decide) ?_
      refine lv_aload_n X.1 X.2.1 dX4_goOn_95 rfl (lv_at hl 4 rfl) ?_
      refine lv_iload X.1 X.2.1 dX4_goOn_96 (lv_at hl 0 rfl) ?_
      obtain ⟨q_12, eq_12, h⟩ := pz_bd_e h
      refine r_Vv X S (c_X4_note hn ha3 eq_12) gd_X4_50 ⟨rfl, ny_X4_note⟩ ⟨rfl, rfl⟩ ⟨by dsimp only; omega, by dsimp only; omega⟩ (r_recv X S (ly_ok_4 (by decide) S.2.2.2) rfl rfl) rfl rfl hl.1 (Nat.le_of_ble_eq_true rfl) dX4_goOn_98 (fun H locs S => ?_)
      exact w_X4_goOn_L101 X hn hrc_X4_goOn ih h ha3 S (lv_sub hl [1, 2, 3, 4, 5, 0] rfl)
    have h := pz_f c_6 h
    refine lv_goto (tgt := 126) X.1 X.2.1 dX4_goOn_50 (by decide) ?_
    exact w_X4_goOn_L126 X hn hrc_X4_goOn ih h ha3 S (lv_sub hl [0, 1, 2, 3, 4] rfl)
def f_X4_goOn (N n : Nat) (rc : Nat → mm_T → Int32 → Int32 → Option (mm_T)) (I : mm_T) (p1 : Int32) (p2 : Int32) : Option (mm_T) := if p1 < (I 1 0 3) then (pz_gd (ix_in (p1 + (1 : Int32)) 8) <| f_X4_goOn_L24 N n rc p1 p2 N I p1 p2 ((p1 + (1 : Int32)).toNatClampNeg + 1) (0 : Int32)) else (some I)
set_option maxRecDepth 100000 in
set_option maxHeartbeats 4000000 in
theorem c_X4_goOn {l : Launch} {G : cx_T} {N n : Nat} {d : Nat} {rc : Nat → mm_T → Int32 → Int32 → Option (mm_T)} {I J : mm_T} {p1 : Int32} {p2 : Int32} (hrc_X4_goOn : ∀ {I J : mm_T} {p1 : Int32} {p2 : Int32} {z : mm_T}, 144 ≤ n → rc 0 I p1 p2 = some z → ct_m l G n yX4_goOn cX4_goOn 6 none ({ frames := 4 + d, cells := 0, slots := 0, locals := 130 + 40 * d }) [.ref (cx_b G + ly_loc 4 0), .int p1, .int p2] I J (ct_qv G n z J)) (hn : 144 ≤ n) {z : mm_T} (h : f_X4_goOn N n rc I p1 p2 = some z) : ct_m l G n yX4_goOn cX4_goOn 6 none ({ frames := 4 + (d + 1), cells := 0, slots := 0, locals := 130 + 40 * (d + 1) }) [.ref (cx_b G + ly_loc 4 0), .int p1, .int p2] I J (ct_qv G n z J) := by
  refine ct_en (by decide) (Nat.le_of_ble_eq_true rfl) ?_
  intro p e s m args below meth c ls X S hl
  have X : cx_ok G p s m args meth c cX4_goOn 6 RX4 none := X
  have hl : lv_has ls 6 [(0, .ref (cx_b G + ly_loc 4 0)), (1, .int p1), (2, .int p2)] := hl
  unfold f_X4_goOn at h
  refine lv_iload_n X.1 X.2.1 dX4_goOn_0 rfl (lv_at hl 1 rfl) ?_
  refine lv_aload_n X.1 X.2.1 dX4_goOn_1 rfl (lv_at hl 0 rfl) ?_
  refine gf_X4_34 X S (by decide) dX4_goOn_2 ?_
  refine gf_X4_65 X S (by decide) dX4_goOn_5 ?_
  refine lv_icmp_lt (tgt := 12) X.1 X.2.1 dX4_goOn_8 (by decide) (fun c_1 => ?_) (fun c_1 => ?_)
  · have h := pz_t c_1 h
    refine lv_aload_n X.1 X.2.1 dX4_goOn_12 rfl (lv_at hl 0 rfl) ?_
    refine gf_X4_11 X S (by decide) dX4_goOn_13 ?_
    refine lv_iload_n X.1 X.2.1 dX4_goOn_16 rfl (lv_at hl 1 rfl) ?_
    refine lv_iconst (v := 1) X.1 X.2.1 dX4_goOn_17 (by decide) ?_
    refine lv_iadd X.1 X.2.1 dX4_goOn_18 ?_
    obtain ⟨g_2, h⟩ := pz_gd_e h
    refine aa_21 X S (by decide) g_2 dX4_goOn_19 ?_
    refine lv_astore_n (lv' := [(3, .ref (cx_b G + ly_loc 0 ((p1 + (1 : Int32)).toNatClampNeg + 1))), (0, .ref (cx_b G + ly_loc 4 0)), (1, .int p1), (2, .int p2)]) X.1 X.2.1 dX4_goOn_20 rfl hl (by decide) rfl (fun ls hl => ?_)
    refine lv_iconst (v := 0) X.1 X.2.1 dX4_goOn_21 (by decide) ?_
    refine lv_istore (lv' := [(4, .int (0 : Int32)), (3, .ref (cx_b G + ly_loc 0 ((p1 + (1 : Int32)).toNatClampNeg + 1))), (0, .ref (cx_b G + ly_loc 4 0)), (1, .int p1), (2, .int p2)]) X.1 X.2.1 dX4_goOn_22 hl (by decide) rfl (fun ls hl => ?_)
    exact w_X4_goOn_L24 X hn hrc_X4_goOn N h (el_21 g_2) S (lv_sub hl [2, 3, 4, 1, 0] rfl)
  have h := pz_f c_1 h
  cases h
  exact r_vret X S dX4_goOn_11
def f_C4 (N n : Nat) : Nat → Nat → mm_T → Int32 → Int32 → Option (mm_T)
  | 0, _, _, _, _ => none
  | d + 1, sel, I, p1, p2 => f_X4_goOn N n (f_C4 N n d) I p1 p2
set_option maxRecDepth 100000 in
set_option maxHeartbeats 4000000 in
theorem ca_C4 {l : Launch} {G : cx_T} {N n : Nat} : ∀ (d : Nat), (∀ {I J : mm_T} {p1 : Int32} {p2 : Int32} {z : mm_T}, 144 ≤ n → f_C4 N n d 0 I p1 p2 = some z → ct_m l G n yX4_goOn cX4_goOn 6 none ({ frames := 4 + d, cells := 0, slots := 0, locals := 130 + 40 * d }) [.ref (cx_b G + ly_loc 4 0), .int p1, .int p2] I J (ct_qv G n z J)) := by
  intro d
  induction d with
  | zero => exact (by intros; rename_i h; rw [f_C4] at h; cases h)
  | succ d ih =>
    exact (by intros; rename_i h; rw [f_C4] at h; exact c_X4_goOn (ih) (by assumption) h)
theorem cs_X4_goOn {l : Launch} {G : cx_T} {N n : Nat} {I J : mm_T} {p1 : Int32} {p2 : Int32} {z : mm_T} (hn : 144 ≤ n) (h : f_C4 N n 20 0 I p1 p2 = some z) : ct_m l G n yX4_goOn cX4_goOn 6 none ({ frames := 24, cells := 0, slots := 0, locals := 930 }) [.ref (cx_b G + ly_loc 4 0), .int p1, .int p2] I J (ct_qv G n z J) := (ca_C4 20) hn h
def f_X4_look (N n : Nat) (I : mm_T) (t1 : Int32) : Option (mm_T) := if (I 4 0 6) = (I 1 0 7) then (some I) else (pz_lt (mm_up I 4 0 6 (I 1 0 7)) fun I_2 => pz_bd (f_X0_begin N n I_2 ((0 : Int32).toNatClampNeg + 1) t1) fun q_3 => pz_bd (f_X4_note N n q_3 (0 : Int32) ((0 : Int32).toNatClampNeg + 1) (0 : Int32)) fun q_4 => pz_bd (f_X4_note N n q_4 (1 : Int32) ((0 : Int32).toNatClampNeg + 1) (0 : Int32)) fun q_5 => pz_bd (f_C4 N n 20 0 q_5 (0 : Int32) (0 : Int32)) fun q_6 => some q_6)
set_option maxRecDepth 100000 in
set_option maxHeartbeats 4000000 in
theorem c_X4_look {l : Launch} {G : cx_T} {N n : Nat} {I J : mm_T} {t1 : Int32} (hn : 144 ≤ n) {z : mm_T} (h : f_X4_look N n I t1 = some z) : ct_m l G n yX4_look cX4_look 2 none ({ frames := 25, cells := 0, slots := 0, locals := 955 }) [.ref (cx_b G + ly_loc 4 0), .ref (cx_b G + ly_loc 7 t1.toNatClampNeg)] I J (ct_qv G n z J) := by
  refine ct_en (by decide) (Nat.le_of_ble_eq_true rfl) ?_
  intro p e s m args below meth c ls X S hl
  have X : cx_ok G p s m args meth c cX4_look 2 RX4 none := X
  have hl : lv_has ls 2 [(0, .ref (cx_b G + ly_loc 4 0)), (1, .ref (cx_b G + ly_loc 7 t1.toNatClampNeg))] := hl
  unfold f_X4_look at h
  refine lv_aload_n X.1 X.2.1 dX4_look_0 rfl (lv_at hl 0 rfl) ?_
  refine gf_X4_30 X S (by decide) dX4_look_1 ?_
  refine lv_aload_n X.1 X.2.1 dX4_look_4 rfl (lv_at hl 0 rfl) ?_
  refine gf_X4_34 X S (by decide) dX4_look_5 ?_
  refine gf_X4_41 X S (by decide) dX4_look_8 ?_
  refine lv_icmp_ne (tgt := 15) X.1 X.2.1 dX4_look_11 (by decide) (fun c_1 => ?_) (fun c_1 => ?_)
  · have h := pz_f c_1 h
    refine lv_aload_n X.1 X.2.1 dX4_look_15 rfl (lv_at hl 0 rfl) ?_
    refine lv_aload_n X.1 X.2.1 dX4_look_16 rfl (lv_at hl 0 rfl) ?_
    refine gf_X4_34 X S (by decide) dX4_look_17 ?_
    refine gf_X4_41 X S (by decide) dX4_look_20 ?_
    refine pf_X4_30 X S (by decide) dX4_look_23 (fun I_2 H locs eI_2 S => ?_)
    have h := pz_lt_e h eI_2
    refine lv_aload_n X.1 X.2.1 dX4_look_26 rfl (lv_at hl 0 rfl) ?_
    refine gf_X4_11 X S (by decide) dX4_look_27 ?_
    refine lv_iconst (v := 0) X.1 X.2.1 dX4_look_30 (by decide) ?_
    refine aa_21 X S (by decide) (by decide) dX4_look_31 ?_
    refine lv_aload_n X.1 X.2.1 dX4_look_32 rfl (lv_at hl 1 rfl) ?_
    obtain ⟨q_3, eq_3, h⟩ := pz_bd_e h
    refine r_Vv X S (c_X0_begin hn (el_21 (by decide)) eq_3) gd_X4_46 ⟨rfl, ny_X0_begin⟩ ⟨rfl, rfl⟩ ⟨Nat.le_of_ble_eq_true rfl, Nat.le_of_ble_eq_true rfl⟩ (r_recv X S (ly_ok_0 (el_21 (by decide)) S.2.2.2) rfl rfl) rfl rfl hl.1 (Nat.le_of_ble_eq_true rfl) dX4_look_33 (fun H locs S => ?_)
    refine lv_aload_n X.1 X.2.1 dX4_look_36 rfl (lv_at hl 0 rfl) ?_
    refine lv_iconst (v := 0) X.1 X.2.1 dX4_look_37 (by decide) ?_
    refine lv_aload_n X.1 X.2.1 dX4_look_38 rfl (lv_at hl 0 rfl) ?_
    refine gf_X4_11 X S (by decide) dX4_look_39 ?_
    refine lv_iconst (v := 0) X.1 X.2.1 dX4_look_42 (by decide) ?_
    refine aa_21 X S (by decide) (by decide) dX4_look_43 ?_
    refine lv_iconst (v := 0) X.1 X.2.1 dX4_look_44 (by decide) ?_
    obtain ⟨q_4, eq_4, h⟩ := pz_bd_e h
    refine r_Vv X S (c_X4_note hn (el_21 (by decide)) eq_4) gd_X4_50 ⟨rfl, ny_X4_note⟩ ⟨rfl, rfl⟩ ⟨Nat.le_of_ble_eq_true rfl, Nat.le_of_ble_eq_true rfl⟩ (r_recv X S (ly_ok_4 (by decide) S.2.2.2) rfl rfl) rfl rfl hl.1 (Nat.le_of_ble_eq_true rfl) dX4_look_45 (fun H locs S => ?_)
    refine lv_aload_n X.1 X.2.1 dX4_look_48 rfl (lv_at hl 0 rfl) ?_
    refine lv_iconst (v := 1) X.1 X.2.1 dX4_look_49 (by decide) ?_
    refine lv_aload_n X.1 X.2.1 dX4_look_50 rfl (lv_at hl 0 rfl) ?_
    refine gf_X4_11 X S (by decide) dX4_look_51 ?_
    refine lv_iconst (v := 0) X.1 X.2.1 dX4_look_54 (by decide) ?_
    refine aa_21 X S (by decide) (by decide) dX4_look_55 ?_
    refine lv_iconst (v := 0) X.1 X.2.1 dX4_look_56 (by decide) ?_
    obtain ⟨q_5, eq_5, h⟩ := pz_bd_e h
    refine r_Vv X S (c_X4_note hn (el_21 (by decide)) eq_5) gd_X4_50 ⟨rfl, ny_X4_note⟩ ⟨rfl, rfl⟩ ⟨Nat.le_of_ble_eq_true rfl, Nat.le_of_ble_eq_true rfl⟩ (r_recv X S (ly_ok_4 (by decide) S.2.2.2) rfl rfl) rfl rfl hl.1 (Nat.le_of_ble_eq_true rfl) dX4_look_57 (fun H locs S => ?_)
    refine lv_aload_n X.1 X.2.1 dX4_look_60 rfl (lv_at hl 0 rfl) ?_
    refine lv_iconst (v := 0) X.1 X.2.1 dX4_look_61 (by decide) ?_
    refine lv_iconst (v := 0) X.1 X.2.1 dX4_look_62 (by decide) ?_
    obtain ⟨q_6, eq_6, h⟩ := pz_bd_e h
    refine r_Vv X S (cs_X4_goOn hn eq_6) gd_X4_54 ⟨rfl, ny_X4_goOn⟩ ⟨rfl, rfl⟩ ⟨Nat.le_of_ble_eq_true rfl, Nat.le_of_ble_eq_true rfl⟩ (r_recv X S (ly_ok_4 (by decide) S.2.2.2) rfl rfl) rfl rfl hl.1 (Nat.le_of_ble_eq_true rfl) dX4_look_63 (fun H locs S => ?_)
    cases h
    exact r_vret X S dX4_look_66
  have h := pz_t c_1 h
  cases h
  exact r_vret X S dX4_look_14
def f_X4_answer (N n : Nat) (I : mm_T) (p1 : Int32) (p2 : Int32) : Option (Int32) := pz_lt p2 fun x_1 => if x_1 = (0 : Int32) then (pz_gd (ix_in p1 2) <| some (I 22 0 p1.toNatClampNeg)) else if x_1 = (1 : Int32) then (pz_gd (ix_in p1 2) <| some (I 23 0 p1.toNatClampNeg)) else if x_1 = (2 : Int32) then (pz_gd (ix_in p1 2) <| some (I 24 0 p1.toNatClampNeg)) else (pz_gd (ix_in p1 2) <| some (I 25 0 p1.toNatClampNeg))
set_option maxRecDepth 100000 in
set_option maxHeartbeats 4000000 in
theorem c_X4_answer {l : Launch} {G : cx_T} {N n : Nat} {I J : mm_T} {p1 : Int32} {p2 : Int32} (hn : 144 ≤ n) {z : Int32} (h : f_X4_answer N n I p1 p2 = some z) : ct_m l G n yX4_answer cX4_answer 3 (some .int) ({ frames := 0, cells := 0, slots := 0, locals := 0 }) [.ref (cx_b G + ly_loc 4 0), .int p1, .int p2] I J (ct_qi G n I J z) := by
  refine ct_en (by decide) (Nat.le_of_ble_eq_true rfl) ?_
  intro p e s m args below meth c ls X S hl
  have X : cx_ok G p s m args meth c cX4_answer 3 RX4 (some .int) := X
  have hl : lv_has ls 3 [(0, .ref (cx_b G + ly_loc 4 0)), (1, .int p1), (2, .int p2)] := hl
  unfold f_X4_answer at h
  refine lv_iload_n X.1 X.2.1 dX4_answer_0 rfl (lv_at hl 2 rfl) ?_
  refine lv_topi (fun x_1 ex_1 => ?_)
  have h := pz_lt_e h ex_1
  rcases Decidable.em (x_1 = (0 : Int32)) with c_2 | c_2
  · have h := pz_t c_2 h
    refine lv_tableIn (off := 27) (tgt := 28) X.1 X.2.1 dX4_answer_1 (by rw [c_2]; decide +kernel) (by rw [c_2]; decide +kernel) (by rw [c_2]; decide +kernel) (by decide) ?_
    refine lv_aload_n X.1 X.2.1 dX4_answer_28 rfl (lv_at hl 0 rfl) ?_
    refine gf_X4_17 X S (by decide) dX4_answer_29 ?_
    refine lv_iload_n X.1 X.2.1 dX4_answer_32 rfl (lv_at hl 1 rfl) ?_
    obtain ⟨g_3, h⟩ := pz_gd_e h
    refine al_22 X S (by decide) g_3 dX4_answer_33 ?_
    cases h
    exact r_iret X S dX4_answer_34
  have h := pz_f c_2 h
  rcases Decidable.em (x_1 = (1 : Int32)) with c_4 | c_4
  · have h := pz_t c_4 h
    refine lv_tableIn (off := 34) (tgt := 35) X.1 X.2.1 dX4_answer_1 (by rw [c_4]; decide +kernel) (by rw [c_4]; decide +kernel) (by rw [c_4]; decide +kernel) (by decide) ?_
    refine lv_aload_n X.1 X.2.1 dX4_answer_35 rfl (lv_at hl 0 rfl) ?_
    refine gf_X4_21 X S (by decide) dX4_answer_36 ?_
    refine lv_iload_n X.1 X.2.1 dX4_answer_39 rfl (lv_at hl 1 rfl) ?_
    obtain ⟨g_5, h⟩ := pz_gd_e h
    refine al_23 X S (by decide) g_5 dX4_answer_40 ?_
    cases h
    exact r_iret X S dX4_answer_41
  have h := pz_f c_4 h
  rcases Decidable.em (x_1 = (2 : Int32)) with c_6 | c_6
  · have h := pz_t c_6 h
    refine lv_tableIn (off := 41) (tgt := 42) X.1 X.2.1 dX4_answer_1 (by rw [c_6]; decide +kernel) (by rw [c_6]; decide +kernel) (by rw [c_6]; decide +kernel) (by decide) ?_
    refine lv_aload_n X.1 X.2.1 dX4_answer_42 rfl (lv_at hl 0 rfl) ?_
    refine gf_X4_24 X S (by decide) dX4_answer_43 ?_
    refine lv_iload_n X.1 X.2.1 dX4_answer_46 rfl (lv_at hl 1 rfl) ?_
    obtain ⟨g_7, h⟩ := pz_gd_e h
    refine al_24 X S (by decide) g_7 dX4_answer_47 ?_
    cases h
    exact r_iret X S dX4_answer_48
  have h := pz_f c_6 h
  refine lv_tableOut (tgt := 49) X.1 X.2.1 dX4_answer_1 (pz_out 0 2 [(0 : Int32), (1 : Int32), (2 : Int32)] (by decide +kernel) (by simp only [List.forall_mem_cons, List.not_mem_nil, false_imp_iff, implies_true, and_true]; exact ⟨c_2, c_4, c_6⟩)) (by decide) ?_
  refine lv_aload_n X.1 X.2.1 dX4_answer_49 rfl (lv_at hl 0 rfl) ?_
  refine gf_X4_27 X S (by decide) dX4_answer_50 ?_
  refine lv_iload_n X.1 X.2.1 dX4_answer_53 rfl (lv_at hl 1 rfl) ?_
  obtain ⟨g_8, h⟩ := pz_gd_e h
  refine al_25 X S (by decide) g_8 dX4_answer_54 ?_
  cases h
  exact r_iret X S dX4_answer_55
