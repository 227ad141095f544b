section RJ2
variable {p : Program} {l : Launch} {e : Env} {R : Room} {s : State} {m : MethodId} {args : Array Value} {below : List Frame} {meth : Method} {c : Code} {H : Heap} {locs : List Loc} {cells slots : Nat} {Q : State → Prop}
variable {cc : ByteArray} {pc : Nat} {ls : Array Slot} {rest : List Value} {G : cx_T} {n0 n nL : Nat} {M : Nat → va_E} {own : String} {ret : Option FieldType}
theorem sg_iast (X : cx_oi G p s m args meth c cc nL own ret) (S : sg_ok G n0 n M s H locs cells) {k N : Nat} (hk : k < n) {f : Nat → Int32} (hf : M k = .inl (cx_c G 0, N, .inl f)) {x y : Int32} (hx : ix_in x N = true) (hd : decode cc pc = .ok (.iastore, 1))
    (kk : ∀ (H1 : Heap) (locs1 : List Loc), sg_ok G n0 n (va_up M k (.inl (cx_c G 0, N, .inl (upd f x.toNatClampNeg y)))) s H1 locs1 cells → W p l e R s m args below meth c H1 locs1 cells slots Q (F0 m (pc + 1) ls rest)) : W p l e R s m args below meth c H locs cells slots Q (F0 m pc ls (.int y :: .int x :: .ref (cx_b G + k) :: rest)) := by
  refine va_iast X.1.1 X.1.2.1 X.1.2.2.2.2.2.1.1 S.1 gm_D S.2.2.1 k 0 (by rw [gm_get hk, hf]) rfl (ix_vp hx) hd (fun H1 locs1 hP _ hS => ?_)
  exact kk H1 locs1 (sg_set S hP hS)
end RJ2
def jc_z : mm_T := fun k _ j => if k = 9 then (if j = 16 then 60 else if j = 52 then -1 else 0) else 0
theorem jz_tab : ∀ k, k < 122 → mm_m (ly_lay k).1 = false := by decide +kernel
theorem jz_low {G : cx_T} {I J J' : mm_T} {j : Nat} (h : j < 122) : ly_cell G (mm_mx I J) j = ly_cell G (mm_mx I J') j := by
  unfold ly_cell
  rw [mm_mx_I (jz_tab j h), mm_mx_I (jz_tab j h)]
def jc_o : Option mm_T := pz_bd (f_X9_spell 0 jc_z 0 98 101 97 114 115 32 49 48) fun z1 => pz_bd (f_X9_spell 0 z1 8 32 59 32 116 97 107 101 115) fun z2 => pz_bd (f_X9_spell 0 z2 16 32 50 32 43 32 109 111 111) fun z3 => pz_bd (f_X9_spell 0 z3 24 100 32 59 32 102 105 114 115) fun z4 => pz_bd (f_X9_spell 0 z4 32 116 32 119 97 105 116 101 100) fun z5 => pz_bd (f_X9_spell 0 z5 40 32 45 32 115 117 110 103 32) fun z6 => pz_bd (f_X9_spell 0 z6 48 42 32 57 32 59 32 32 32) fun z7 => some (mm_up (mm_up z7 31 0 0 56) 9 0 3 1)
def jc_C : mm_T := jc_o.getD jc_z
theorem jc_s : jc_o = some jc_C := by
  have h : jc_o.isSome = true := by decide +kernel
  unfold jc_C
  cases hq : jc_o with
  | none => rw [hq] at h; cases h
  | some z => rfl
set_option maxRecDepth 100000 in
set_option maxHeartbeats 8000000 in
theorem k_X9 {l : Launch} {G : cx_T} {M : Nat → va_E} {I J0 : mm_T} (f0 : M 122 = .inr (9, [.int 0, .null, .null, .int 0, .int 0, .null, .int 0, .null, .null, .int 0, .null, .null, .null, .null, .int 0, .int 0, .int 0, .int 0, .int 0, .int 0, .int 0, .int 0, .int 0, .int 0, .int 0, .int 0, .int 0, .int 0, .long 0, .int 0, .int 0, .int 0, .int 0, .int 0, .int 0, .int 0, .int 0, .null, .null, .int 0, .int 0, .null, .null, .null, .null, .int 0, .int 0, .int 0, .int 0, .int 0, .null, .null, .int 0, .int 0, .int 0, .int 0, .int 0, .null, .null, .null, .null])) (hM0 : ∀ j, j < 122 → M j = ly_cell G (mm_mx I J0) j) : cg_m l G 123 yX9_init cX9_init 1 none ({ frames := 2, cells := 21, slots := 1586, locals := 40 }) [.ref (cx_b G + 122)] M (cg_qv G 144 (ly_cell G (mm_mx I jc_C))) 21 1586 := by
  refine cg_en (by decide) (Nat.le_of_ble_eq_true rfl) ?_
  intro p e s m args below meth c ls hin2 X S hl
  have hin2 : meth.name = "<init>" := hin2
  have X : cx_oi G p s m args meth c cX9_init 1 RX9 none := X
  have hl : lv_has ls 1 [(0, .ref (cx_b G + 122))] := hl
  refine lv_aload_n X.1.1 X.1.2.1 dX9_init_0 rfl (lv_at hl 0 rfl) ?_
  refine sg_oi X ol_X9 oi_i oi_c hl.1 dX9_init_1 (Nat.le_of_ble_eq_true rfl) (Nat.le_of_ble_eq_true rfl) ?_
  refine lv_aload_n X.1.1 X.1.2.1 dX9_init_4 rfl (lv_at hl 0 rfl) ?_
  refine lv_sipush (v := 960) X.1.1 X.1.2.1 dX9_init_5 (by decide) ?_
  obtain ⟨M1, eM1⟩ : ∃ z, z = va_up M 123 (.inl (cx_c G 0, 960, .inl (fun _ => 0))) := ⟨_, rfl⟩
  have f1_122 : M1 122 = .inr (9, [.int 0, .null, .null, .int 0, .int 0, .null, .int 0, .null, .null, .int 0, .null, .null, .null, .null, .int 0, .int 0, .int 0, .int 0, .int 0, .int 0, .int 0, .int 0, .int 0, .int 0, .int 0, .int 0, .int 0, .int 0, .long 0, .int 0, .int 0, .int 0, .int 0, .int 0, .int 0, .int 0, .int 0, .null, .null, .int 0, .int 0, .null, .null, .null, .null, .int 0, .int 0, .int 0, .int 0, .int 0, .null, .null, .int 0, .int 0, .int 0, .int 0, .int 0, .null, .null, .null, .null]) := by rw [eM1, up_ne (by omega)]; exact f0
  have f1_123 : M1 123 = .inl (cx_c G 0, 960, .inl (fun _ => 0)) := by rw [eM1]; exact up_at rfl
  have S := S.to (M' := M1) (fun j hj => by rw [eM1, up_ne (by omega)])
  refine sg_newi (N := 960) X S f1_123 (by decide) rfl (Nat.le_of_ble_eq_true rfl) (Nat.le_of_ble_eq_true rfl) (Nat.le_of_ble_eq_true rfl) ac_i dX9_init_8 (fun H S => ?_)
  refine sg_putF X hin2 S (by omega) f1_122 (show vwCl[9]? = some (RX9, TX9, 61) from rfl) in_X9 tyX9_ok nmX9 1 (by decide) rfl lk_X9_13 rfl rfl rfl (Nat.le_of_ble_eq_true rfl) dX9_init_10 (fun H locs S => ?_)
  obtain ⟨M2, eM2⟩ : ∃ z, z = va_up M1 122 (.inr (9, [.int 0, .ref (cx_b G + 123), .null, .int 0, .int 0, .null, .int 0, .null, .null, .int 0, .null, .null, .null, .null, .int 0, .int 0, .int 0, .int 0, .int 0, .int 0, .int 0, .int 0, .int 0, .int 0, .int 0, .int 0, .int 0, .int 0, .long 0, .int 0, .int 0, .int 0, .int 0, .int 0, .int 0, .int 0, .int 0, .null, .null, .int 0, .int 0, .null, .null, .null, .null, .int 0, .int 0, .int 0, .int 0, .int 0, .null, .null, .int 0, .int 0, .int 0, .int 0, .int 0, .null, .null, .null, .null])) := ⟨_, rfl⟩
  have f2_123 : M2 123 = .inl (cx_c G 0, 960, .inl (fun _ => 0)) := by rw [eM2, up_ne (by omega)]; exact f1_123
  have f2_122 : M2 122 = .inr (9, [.int 0, .ref (cx_b G + 123), .null, .int 0, .int 0, .null, .int 0, .null, .null, .int 0, .null, .null, .null, .null, .int 0, .int 0, .int 0, .int 0, .int 0, .int 0, .int 0, .int 0, .int 0, .int 0, .int 0, .int 0, .int 0, .int 0, .long 0, .int 0, .int 0, .int 0, .int 0, .int 0, .int 0, .int 0, .int 0, .null, .null, .int 0, .int 0, .null, .null, .null, .null, .int 0, .int 0, .int 0, .int 0, .int 0, .null, .null, .int 0, .int 0, .int 0, .int 0, .int 0, .null, .null, .null, .null]) := by rw [eM2]; exact up_at rfl
  have S : sg_ok G 123 (124) M2 s H locs (0 + 1) := by rw [eM2]; exact S
  refine lv_aload_n X.1.1 X.1.2.1 dX9_init_13 rfl (lv_at hl 0 rfl) ?_
  refine lv_bipush (v := 6) X.1.1 X.1.2.1 dX9_init_14 (by decide) ?_
  obtain ⟨M3, eM3⟩ : ∃ z, z = va_up M2 124 (.inl (cx_c G 0, 6, .inl (fun _ => 0))) := ⟨_, rfl⟩
  have f3_123 : M3 123 = .inl (cx_c G 0, 960, .inl (fun _ => 0)) := by rw [eM3, up_ne (by omega)]; exact f2_123
  have f3_122 : M3 122 = .inr (9, [.int 0, .ref (cx_b G + 123), .null, .int 0, .int 0, .null, .int 0, .null, .null, .int 0, .null, .null, .null, .null, .int 0, .int 0, .int 0, .int 0, .int 0, .int 0, .int 0, .int 0, .int 0, .int 0, .int 0, .int 0, .int 0, .int 0, .long 0, .int 0, .int 0, .int 0, .int 0, .int 0, .int 0, .int 0, .int 0, .null, .null, .int 0, .int 0, .null, .null, .null, .null, .int 0, .int 0, .int 0, .int 0, .int 0, .null, .null, .int 0, .int 0, .int 0, .int 0, .int 0, .null, .null, .null, .null]) := by rw [eM3, up_ne (by omega)]; exact f2_122
  have f3_124 : M3 124 = .inl (cx_c G 0, 6, .inl (fun _ => 0)) := by rw [eM3]; exact up_at rfl
  have S := S.to (M' := M3) (fun j hj => by rw [eM3, up_ne (by omega)])
  refine sg_newi (N := 6) X S f3_124 (by decide) rfl (Nat.le_of_ble_eq_true rfl) (Nat.le_of_ble_eq_true rfl) (Nat.le_of_ble_eq_true rfl) ac_i dX9_init_16 (fun H S => ?_)
  refine sg_putF X hin2 S (by omega) f3_122 (show vwCl[9]? = some (RX9, TX9, 61) from rfl) in_X9 tyX9_ok nmX9 2 (by decide) rfl lk_X9_17 rfl rfl rfl (Nat.le_of_ble_eq_true rfl) dX9_init_18 (fun H locs S => ?_)
  obtain ⟨M4, eM4⟩ : ∃ z, z = va_up M3 122 (.inr (9, [.int 0, .ref (cx_b G + 123), .ref (cx_b G + 124), .int 0, .int 0, .null, .int 0, .null, .null, .int 0, .null, .null, .null, .null, .int 0, .int 0, .int 0, .int 0, .int 0, .int 0, .int 0, .int 0, .int 0, .int 0, .int 0, .int 0, .int 0, .int 0, .long 0, .int 0, .int 0, .int 0, .int 0, .int 0, .int 0, .int 0, .int 0, .null, .null, .int 0, .int 0, .null, .null, .null, .null, .int 0, .int 0, .int 0, .int 0, .int 0, .null, .null, .int 0, .int 0, .int 0, .int 0, .int 0, .null, .null, .null, .null])) := ⟨_, rfl⟩
  have f4_123 : M4 123 = .inl (cx_c G 0, 960, .inl (fun _ => 0)) := by rw [eM4, up_ne (by omega)]; exact f3_123
  have f4_124 : M4 124 = .inl (cx_c G 0, 6, .inl (fun _ => 0)) := by rw [eM4, up_ne (by omega)]; exact f3_124
  have f4_122 : M4 122 = .inr (9, [.int 0, .ref (cx_b G + 123), .ref (cx_b G + 124), .int 0, .int 0, .null, .int 0, .null, .null, .int 0, .null, .null, .null, .null, .int 0, .int 0, .int 0, .int 0, .int 0, .int 0, .int 0, .int 0, .int 0, .int 0, .int 0, .int 0, .int 0, .int 0, .long 0, .int 0, .int 0, .int 0, .int 0, .int 0, .int 0, .int 0, .int 0, .null, .null, .int 0, .int 0, .null, .null, .null, .null, .int 0, .int 0, .int 0, .int 0, .int 0, .null, .null, .int 0, .int 0, .int 0, .int 0, .int 0, .null, .null, .null, .null]) := by rw [eM4]; exact up_at rfl
  have S : sg_ok G 123 (125) M4 s H locs (0 + 1 + 1) := by rw [eM4]; exact S
  refine lv_aload_n X.1.1 X.1.2.1 dX9_init_21 rfl (lv_at hl 0 rfl) ?_
  refine lv_sipush (v := 160) X.1.1 X.1.2.1 dX9_init_22 (by decide) ?_
  obtain ⟨M5, eM5⟩ : ∃ z, z = va_up M4 125 (.inl (cx_c G 0, 160, .inl (fun _ => 0))) := ⟨_, rfl⟩
  have f5_123 : M5 123 = .inl (cx_c G 0, 960, .inl (fun _ => 0)) := by rw [eM5, up_ne (by omega)]; exact f4_123
  have f5_124 : M5 124 = .inl (cx_c G 0, 6, .inl (fun _ => 0)) := by rw [eM5, up_ne (by omega)]; exact f4_124
  have f5_122 : M5 122 = .inr (9, [.int 0, .ref (cx_b G + 123), .ref (cx_b G + 124), .int 0, .int 0, .null, .int 0, .null, .null, .int 0, .null, .null, .null, .null, .int 0, .int 0, .int 0, .int 0, .int 0, .int 0, .int 0, .int 0, .int 0, .int 0, .int 0, .int 0, .int 0, .int 0, .long 0, .int 0, .int 0, .int 0, .int 0, .int 0, .int 0, .int 0, .int 0, .null, .null, .int 0, .int 0, .null, .null, .null, .null, .int 0, .int 0, .int 0, .int 0, .int 0, .null, .null, .int 0, .int 0, .int 0, .int 0, .int 0, .null, .null, .null, .null]) := by rw [eM5, up_ne (by omega)]; exact f4_122
  have f5_125 : M5 125 = .inl (cx_c G 0, 160, .inl (fun _ => 0)) := by rw [eM5]; exact up_at rfl
  have S := S.to (M' := M5) (fun j hj => by rw [eM5, up_ne (by omega)])
  refine sg_newi (N := 160) X S f5_125 (by decide) rfl (Nat.le_of_ble_eq_true rfl) (Nat.le_of_ble_eq_true rfl) (Nat.le_of_ble_eq_true rfl) ac_i dX9_init_25 (fun H S => ?_)
  refine sg_putF X hin2 S (by omega) f5_122 (show vwCl[9]? = some (RX9, TX9, 61) from rfl) in_X9 tyX9_ok nmX9 5 (by decide) rfl lk_X9_20 rfl rfl rfl (Nat.le_of_ble_eq_true rfl) dX9_init_27 (fun H locs S => ?_)
  obtain ⟨M6, eM6⟩ : ∃ z, z = va_up M5 122 (.inr (9, [.int 0, .ref (cx_b G + 123), .ref (cx_b G + 124), .int 0, .int 0, .ref (cx_b G + 125), .int 0, .null, .null, .int 0, .null, .null, .null, .null, .int 0, .int 0, .int 0, .int 0, .int 0, .int 0, .int 0, .int 0, .int 0, .int 0, .int 0, .int 0, .int 0, .int 0, .long 0, .int 0, .int 0, .int 0, .int 0, .int 0, .int 0, .int 0, .int 0, .null, .null, .int 0, .int 0, .null, .null, .null, .null, .int 0, .int 0, .int 0, .int 0, .int 0, .null, .null, .int 0, .int 0, .int 0, .int 0, .int 0, .null, .null, .null, .null])) := ⟨_, rfl⟩
  have f6_123 : M6 123 = .inl (cx_c G 0, 960, .inl (fun _ => 0)) := by rw [eM6, up_ne (by omega)]; exact f5_123
  have f6_124 : M6 124 = .inl (cx_c G 0, 6, .inl (fun _ => 0)) := by rw [eM6, up_ne (by omega)]; exact f5_124
  have f6_125 : M6 125 = .inl (cx_c G 0, 160, .inl (fun _ => 0)) := by rw [eM6, up_ne (by omega)]; exact f5_125
  have f6_122 : M6 122 = .inr (9, [.int 0, .ref (cx_b G + 123), .ref (cx_b G + 124), .int 0, .int 0, .ref (cx_b G + 125), .int 0, .null, .null, .int 0, .null, .null, .null, .null, .int 0, .int 0, .int 0, .int 0, .int 0, .int 0, .int 0, .int 0, .int 0, .int 0, .int 0, .int 0, .int 0, .int 0, .long 0, .int 0, .int 0, .int 0, .int 0, .int 0, .int 0, .int 0, .int 0, .null, .null, .int 0, .int 0, .null, .null, .null, .null, .int 0, .int 0, .int 0, .int 0, .int 0, .null, .null, .int 0, .int 0, .int 0, .int 0, .int 0, .null, .null, .null, .null]) := by rw [eM6]; exact up_at rfl
  have S : sg_ok G 123 (126) M6 s H locs (0 + 1 + 1 + 1) := by rw [eM6]; exact S
  refine lv_aload_n X.1.1 X.1.2.1 dX9_init_30 rfl (lv_at hl 0 rfl) ?_
  refine lv_bipush (v := 8) X.1.1 X.1.2.1 dX9_init_31 (by decide) ?_
  obtain ⟨M7, eM7⟩ : ∃ z, z = va_up M6 126 (.inl (cx_c G 0, 8, .inl (fun _ => 0))) := ⟨_, rfl⟩
  have f7_123 : M7 123 = .inl (cx_c G 0, 960, .inl (fun _ => 0)) := by rw [eM7, up_ne (by omega)]; exact f6_123
  have f7_124 : M7 124 = .inl (cx_c G 0, 6, .inl (fun _ => 0)) := by rw [eM7, up_ne (by omega)]; exact f6_124
  have f7_125 : M7 125 = .inl (cx_c G 0, 160, .inl (fun _ => 0)) := by rw [eM7, up_ne (by omega)]; exact f6_125
  have f7_122 : M7 122 = .inr (9, [.int 0, .ref (cx_b G + 123), .ref (cx_b G + 124), .int 0, .int 0, .ref (cx_b G + 125), .int 0, .null, .null, .int 0, .null, .null, .null, .null, .int 0, .int 0, .int 0, .int 0, .int 0, .int 0, .int 0, .int 0, .int 0, .int 0, .int 0, .int 0, .int 0, .int 0, .long 0, .int 0, .int 0, .int 0, .int 0, .int 0, .int 0, .int 0, .int 0, .null, .null, .int 0, .int 0, .null, .null, .null, .null, .int 0, .int 0, .int 0, .int 0, .int 0, .null, .null, .int 0, .int 0, .int 0, .int 0, .int 0, .null, .null, .null, .null]) := by rw [eM7, up_ne (by omega)]; exact f6_122
  have f7_126 : M7 126 = .inl (cx_c G 0, 8, .inl (fun _ => 0)) := by rw [eM7]; exact up_at rfl
  have S := S.to (M' := M7) (fun j hj => by rw [eM7, up_ne (by omega)])
  refine sg_newi (N := 8) X S f7_126 (by decide) rfl (Nat.le_of_ble_eq_true rfl) (Nat.le_of_ble_eq_true rfl) (Nat.le_of_ble_eq_true rfl) ac_i dX9_init_33 (fun H S => ?_)
  refine sg_putF X hin2 S (by omega) f7_122 (show vwCl[9]? = some (RX9, TX9, 61) from rfl) in_X9 tyX9_ok nmX9 7 (by decide) rfl lk_X9_23 rfl rfl rfl (Nat.le_of_ble_eq_true rfl) dX9_init_35 (fun H locs S => ?_)
  obtain ⟨M8, eM8⟩ : ∃ z, z = va_up M7 122 (.inr (9, [.int 0, .ref (cx_b G + 123), .ref (cx_b G + 124), .int 0, .int 0, .ref (cx_b G + 125), .int 0, .ref (cx_b G + 126), .null, .int 0, .null, .null, .null, .null, .int 0, .int 0, .int 0, .int 0, .int 0, .int 0, .int 0, .int 0, .int 0, .int 0, .int 0, .int 0, .int 0, .int 0, .long 0, .int 0, .int 0, .int 0, .int 0, .int 0, .int 0, .int 0, .int 0, .null, .null, .int 0, .int 0, .null, .null, .null, .null, .int 0, .int 0, .int 0, .int 0, .int 0, .null, .null, .int 0, .int 0, .int 0, .int 0, .int 0, .null, .null, .null, .null])) := ⟨_, rfl⟩
  have f8_123 : M8 123 = .inl (cx_c G 0, 960, .inl (fun _ => 0)) := by rw [eM8, up_ne (by omega)]; exact f7_123
  have f8_124 : M8 124 = .inl (cx_c G 0, 6, .inl (fun _ => 0)) := by rw [eM8, up_ne (by omega)]; exact f7_124
  have f8_125 : M8 125 = .inl (cx_c G 0, 160, .inl (fun _ => 0)) := by rw [eM8, up_ne (by omega)]; exact f7_125
  have f8_126 : M8 126 = .inl (cx_c G 0, 8, .inl (fun _ => 0)) := by rw [eM8, up_ne (by omega)]; exact f7_126
  have f8_122 : M8 122 = .inr (9, [.int 0, .ref (cx_b G + 123), .ref (cx_b G + 124), .int 0, .int 0, .ref (cx_b G + 125), .int 0, .ref (cx_b G + 126), .null, .int 0, .null, .null, .null, .null, .int 0, .int 0, .int 0, .int 0, .int 0, .int 0, .int 0, .int 0, .int 0, .int 0, .int 0, .int 0, .int 0, .int 0, .long 0, .int 0, .int 0, .int 0, .int 0, .int 0, .int 0, .int 0, .int 0, .null, .null, .int 0, .int 0, .null, .null, .null, .null, .int 0, .int 0, .int 0, .int 0, .int 0, .null, .null, .int 0, .int 0, .int 0, .int 0, .int 0, .null, .null, .null, .null]) := by rw [eM8]; exact up_at rfl
  have S : sg_ok G 123 (127) M8 s H locs (0 + 1 + 1 + 1 + 1) := by rw [eM8]; exact S
  refine lv_aload_n X.1.1 X.1.2.1 dX9_init_38 rfl (lv_at hl 0 rfl) ?_
  refine lv_bipush (v := 8) X.1.1 X.1.2.1 dX9_init_39 (by decide) ?_
  obtain ⟨M9, eM9⟩ : ∃ z, z = va_up M8 127 (.inl (cx_c G 0, 8, .inl (fun _ => 0))) := ⟨_, rfl⟩
  have f9_123 : M9 123 = .inl (cx_c G 0, 960, .inl (fun _ => 0)) := by rw [eM9, up_ne (by omega)]; exact f8_123
  have f9_124 : M9 124 = .inl (cx_c G 0, 6, .inl (fun _ => 0)) := by rw [eM9, up_ne (by omega)]; exact f8_124
  have f9_125 : M9 125 = .inl (cx_c G 0, 160, .inl (fun _ => 0)) := by rw [eM9, up_ne (by omega)]; exact f8_125
  have f9_126 : M9 126 = .inl (cx_c G 0, 8, .inl (fun _ => 0)) := by rw [eM9, up_ne (by omega)]; exact f8_126
  have f9_122 : M9 122 = .inr (9, [.int 0, .ref (cx_b G + 123), .ref (cx_b G + 124), .int 0, .int 0, .ref (cx_b G + 125), .int 0, .ref (cx_b G + 126), .null, .int 0, .null, .null, .null, .null, .int 0, .int 0, .int 0, .int 0, .int 0, .int 0, .int 0, .int 0, .int 0, .int 0, .int 0, .int 0, .int 0, .int 0, .long 0, .int 0, .int 0, .int 0, .int 0, .int 0, .int 0, .int 0, .int 0, .null, .null, .int 0, .int 0, .null, .null, .null, .null, .int 0, .int 0, .int 0, .int 0, .int 0, .null, .null, .int 0, .int 0, .int 0, .int 0, .int 0, .null, .null, .null, .null]) := by rw [eM9, up_ne (by omega)]; exact f8_122
  have f9_127 : M9 127 = .inl (cx_c G 0, 8, .inl (fun _ => 0)) := by rw [eM9]; exact up_at rfl
  have S := S.to (M' := M9) (fun j hj => by rw [eM9, up_ne (by omega)])
  refine sg_newi (N := 8) X S f9_127 (by decide) rfl (Nat.le_of_ble_eq_true rfl) (Nat.le_of_ble_eq_true rfl) (Nat.le_of_ble_eq_true rfl) ac_i dX9_init_41 (fun H S => ?_)
  refine sg_putF X hin2 S (by omega) f9_122 (show vwCl[9]? = some (RX9, TX9, 61) from rfl) in_X9 tyX9_ok nmX9 8 (by decide) rfl lk_X9_26 rfl rfl rfl (Nat.le_of_ble_eq_true rfl) dX9_init_43 (fun H locs S => ?_)
  obtain ⟨M10, eM10⟩ : ∃ z, z = va_up M9 122 (.inr (9, [.int 0, .ref (cx_b G + 123), .ref (cx_b G + 124), .int 0, .int 0, .ref (cx_b G + 125), .int 0, .ref (cx_b G + 126), .ref (cx_b G + 127), .int 0, .null, .null, .null, .null, .int 0, .int 0, .int 0, .int 0, .int 0, .int 0, .int 0, .int 0, .int 0, .int 0, .int 0, .int 0, .int 0, .int 0, .long 0, .int 0, .int 0, .int 0, .int 0, .int 0, .int 0, .int 0, .int 0, .null, .null, .int 0, .int 0, .null, .null, .null, .null, .int 0, .int 0, .int 0, .int 0, .int 0, .null, .null, .int 0, .int 0, .int 0, .int 0, .int 0, .null, .null, .null, .null])) := ⟨_, rfl⟩
  have f10_123 : M10 123 = .inl (cx_c G 0, 960, .inl (fun _ => 0)) := by rw [eM10, up_ne (by omega)]; exact f9_123
  have f10_124 : M10 124 = .inl (cx_c G 0, 6, .inl (fun _ => 0)) := by rw [eM10, up_ne (by omega)]; exact f9_124
  have f10_125 : M10 125 = .inl (cx_c G 0, 160, .inl (fun _ => 0)) := by rw [eM10, up_ne (by omega)]; exact f9_125
  have f10_126 : M10 126 = .inl (cx_c G 0, 8, .inl (fun _ => 0)) := by rw [eM10, up_ne (by omega)]; exact f9_126
  have f10_127 : M10 127 = .inl (cx_c G 0, 8, .inl (fun _ => 0)) := by rw [eM10, up_ne (by omega)]; exact f9_127
  have f10_122 : M10 122 = .inr (9, [.int 0, .ref (cx_b G + 123), .ref (cx_b G + 124), .int 0, .int 0, .ref (cx_b G + 125), .int 0, .ref (cx_b G + 126), .ref (cx_b G + 127), .int 0, .null, .null, .null, .null, .int 0, .int 0, .int 0, .int 0, .int 0, .int 0, .int 0, .int 0, .int 0, .int 0, .int 0, .int 0, .int 0, .int 0, .long 0, .int 0, .int 0, .int 0, .int 0, .int 0, .int 0, .int 0, .int 0, .null, .null, .int 0, .int 0, .null, .null, .null, .null, .int 0, .int 0, .int 0, .int 0, .int 0, .null, .null, .int 0, .int 0, .int 0, .int 0, .int 0, .null, .null, .null, .null]) := by rw [eM10]; exact up_at rfl
  have S : sg_ok G 123 (128) M10 s H locs (0 + 1 + 1 + 1 + 1 + 1) := by rw [eM10]; exact S
  refine lv_aload_n X.1.1 X.1.2.1 dX9_init_46 rfl (lv_at hl 0 rfl) ?_
  refine lv_bipush (v := 7) X.1.1 X.1.2.1 dX9_init_47 (by decide) ?_
  obtain ⟨M11, eM11⟩ : ∃ z, z = va_up M10 128 (.inl (cx_c G 0, 7, .inl (fun _ => 0))) := ⟨_, rfl⟩
  have f11_123 : M11 123 = .inl (cx_c G 0, 960, .inl (fun _ => 0)) := by rw [eM11, up_ne (by omega)]; exact f10_123
  have f11_124 : M11 124 = .inl (cx_c G 0, 6, .inl (fun _ => 0)) := by rw [eM11, up_ne (by omega)]; exact f10_124
  have f11_125 : M11 125 = .inl (cx_c G 0, 160, .inl (fun _ => 0)) := by rw [eM11, up_ne (by omega)]; exact f10_125
  have f11_126 : M11 126 = .inl (cx_c G 0, 8, .inl (fun _ => 0)) := by rw [eM11, up_ne (by omega)]; exact f10_126
  have f11_127 : M11 127 = .inl (cx_c G 0, 8, .inl (fun _ => 0)) := by rw [eM11, up_ne (by omega)]; exact f10_127
  have f11_122 : M11 122 = .inr (9, [.int 0, .ref (cx_b G + 123), .ref (cx_b G + 124), .int 0, .int 0, .ref (cx_b G + 125), .int 0, .ref (cx_b G + 126), .ref (cx_b G + 127), .int 0, .null, .null, .null, .null, .int 0, .int 0, .int 0, .int 0, .int 0, .int 0, .int 0, .int 0, .int 0, .int 0, .int 0, .int 0, .int 0, .int 0, .long 0, .int 0, .int 0, .int 0, .int 0, .int 0, .int 0, .int 0, .int 0, .null, .null, .int 0, .int 0, .null, .null, .null, .null, .int 0, .int 0, .int 0, .int 0, .int 0, .null, .null, .int 0, .int 0, .int 0, .int 0, .int 0, .null, .null, .null, .null]) := by rw [eM11, up_ne (by omega)]; exact f10_122
  have f11_128 : M11 128 = .inl (cx_c G 0, 7, .inl (fun _ => 0)) := by rw [eM11]; exact up_at rfl
  have S := S.to (M' := M11) (fun j hj => by rw [eM11, up_ne (by omega)])
  refine sg_newi (N := 7) X S f11_128 (by decide) rfl (Nat.le_of_ble_eq_true rfl) (Nat.le_of_ble_eq_true rfl) (Nat.le_of_ble_eq_true rfl) ac_i dX9_init_49 (fun H S => ?_)
  refine sg_putF X hin2 S (by omega) f11_122 (show vwCl[9]? = some (RX9, TX9, 61) from rfl) in_X9 tyX9_ok nmX9 10 (by decide) rfl lk_X9_29 rfl rfl rfl (Nat.le_of_ble_eq_true rfl) dX9_init_51 (fun H locs S => ?_)
  obtain ⟨M12, eM12⟩ : ∃ z, z = va_up M11 122 (.inr (9, [.int 0, .ref (cx_b G + 123), .ref (cx_b G + 124), .int 0, .int 0, .ref (cx_b G + 125), .int 0, .ref (cx_b G + 126), .ref (cx_b G + 127), .int 0, .ref (cx_b G + 128), .null, .null, .null, .int 0, .int 0, .int 0, .int 0, .int 0, .int 0, .int 0, .int 0, .int 0, .int 0, .int 0, .int 0, .int 0, .int 0, .long 0, .int 0, .int 0, .int 0, .int 0, .int 0, .int 0, .int 0, .int 0, .null, .null, .int 0, .int 0, .null, .null, .null, .null, .int 0, .int 0, .int 0, .int 0, .int 0, .null, .null, .int 0, .int 0, .int 0, .int 0, .int 0, .null, .null, .null, .null])) := ⟨_, rfl⟩
  have f12_123 : M12 123 = .inl (cx_c G 0, 960, .inl (fun _ => 0)) := by rw [eM12, up_ne (by omega)]; exact f11_123
  have f12_124 : M12 124 = .inl (cx_c G 0, 6, .inl (fun _ => 0)) := by rw [eM12, up_ne (by omega)]; exact f11_124
  have f12_125 : M12 125 = .inl (cx_c G 0, 160, .inl (fun _ => 0)) := by rw [eM12, up_ne (by omega)]; exact f11_125
  have f12_126 : M12 126 = .inl (cx_c G 0, 8, .inl (fun _ => 0)) := by rw [eM12, up_ne (by omega)]; exact f11_126
  have f12_127 : M12 127 = .inl (cx_c G 0, 8, .inl (fun _ => 0)) := by rw [eM12, up_ne (by omega)]; exact f11_127
  have f12_128 : M12 128 = .inl (cx_c G 0, 7, .inl (fun _ => 0)) := by rw [eM12, up_ne (by omega)]; exact f11_128
  have f12_122 : M12 122 = .inr (9, [.int 0, .ref (cx_b G + 123), .ref (cx_b G + 124), .int 0, .int 0, .ref (cx_b G + 125), .int 0, .ref (cx_b G + 126), .ref (cx_b G + 127), .int 0, .ref (cx_b G + 128), .null, .null, .null, .int 0, .int 0, .int 0, .int 0, .int 0, .int 0, .int 0, .int 0, .int 0, .int 0, .int 0, .int 0, .int 0, .int 0, .long 0, .int 0, .int 0, .int 0, .int 0, .int 0, .int 0, .int 0, .int 0, .null, .null, .int 0, .int 0, .null, .null, .null, .null, .int 0, .int 0, .int 0, .int 0, .int 0, .null, .null, .int 0, .int 0, .int 0, .int 0, .int 0, .null, .null, .null, .null]) := by rw [eM12]; exact up_at rfl
  have S : sg_ok G 123 (129) M12 s H locs (0 + 1 + 1 + 1 + 1 + 1 + 1) := by rw [eM12]; exact S
  refine lv_aload_n X.1.1 X.1.2.1 dX9_init_54 rfl (lv_at hl 0 rfl) ?_
  refine lv_bipush (v := 7) X.1.1 X.1.2.1 dX9_init_55 (by decide) ?_
  obtain ⟨M13, eM13⟩ : ∃ z, z = va_up M12 129 (.inl (cx_c G 0, 7, .inl (fun _ => 0))) := ⟨_, rfl⟩
  have f13_123 : M13 123 = .inl (cx_c G 0, 960, .inl (fun _ => 0)) := by rw [eM13, up_ne (by omega)]; exact f12_123
  have f13_124 : M13 124 = .inl (cx_c G 0, 6, .inl (fun _ => 0)) := by rw [eM13, up_ne (by omega)]; exact f12_124
  have f13_125 : M13 125 = .inl (cx_c G 0, 160, .inl (fun _ => 0)) := by rw [eM13, up_ne (by omega)]; exact f12_125
  have f13_126 : M13 126 = .inl (cx_c G 0, 8, .inl (fun _ => 0)) := by rw [eM13, up_ne (by omega)]; exact f12_126
  have f13_127 : M13 127 = .inl (cx_c G 0, 8, .inl (fun _ => 0)) := by rw [eM13, up_ne (by omega)]; exact f12_127
  have f13_128 : M13 128 = .inl (cx_c G 0, 7, .inl (fun _ => 0)) := by rw [eM13, up_ne (by omega)]; exact f12_128
  have f13_122 : M13 122 = .inr (9, [.int 0, .ref (cx_b G + 123), .ref (cx_b G + 124), .int 0, .int 0, .ref (cx_b G + 125), .int 0, .ref (cx_b G + 126), .ref (cx_b G + 127), .int 0, .ref (cx_b G + 128), .null, .null, .null, .int 0, .int 0, .int 0, .int 0, .int 0, .int 0, .int 0, .int 0, .int 0, .int 0, .int 0, .int 0, .int 0, .int 0, .long 0, .int 0, .int 0, .int 0, .int 0, .int 0, .int 0, .int 0, .int 0, .null, .null, .int 0, .int 0, .null, .null, .null, .null, .int 0, .int 0, .int 0, .int 0, .int 0, .null, .null, .int 0, .int 0, .int 0, .int 0, .int 0, .null, .null, .null, .null]) := by rw [eM13, up_ne (by omega)]; exact f12_122
  have f13_129 : M13 129 = .inl (cx_c G 0, 7, .inl (fun _ => 0)) := by rw [eM13]; exact up_at rfl
  have S := S.to (M' := M13) (fun j hj => by rw [eM13, up_ne (by omega)])
  refine sg_newi (N := 7) X S f13_129 (by decide) rfl (Nat.le_of_ble_eq_true rfl) (Nat.le_of_ble_eq_true rfl) (Nat.le_of_ble_eq_true rfl) ac_i dX9_init_57 (fun H S => ?_)
  refine sg_putF X hin2 S (by omega) f13_122 (show vwCl[9]? = some (RX9, TX9, 61) from rfl) in_X9 tyX9_ok nmX9 11 (by decide) rfl lk_X9_32 rfl rfl rfl (Nat.le_of_ble_eq_true rfl) dX9_init_59 (fun H locs S => ?_)
  obtain ⟨M14, eM14⟩ : ∃ z, z = va_up M13 122 (.inr (9, [.int 0, .ref (cx_b G + 123), .ref (cx_b G + 124), .int 0, .int 0, .ref (cx_b G + 125), .int 0, .ref (cx_b G + 126), .ref (cx_b G + 127), .int 0, .ref (cx_b G + 128), .ref (cx_b G + 129), .null, .null, .int 0, .int 0, .int 0, .int 0, .int 0, .int 0, .int 0, .int 0, .int 0, .int 0, .int 0, .int 0, .int 0, .int 0, .long 0, .int 0, .int 0, .int 0, .int 0, .int 0, .int 0, .int 0, .int 0, .null, .null, .int 0, .int 0, .null, .null, .null, .null, .int 0, .int 0, .int 0, .int 0, .int 0, .null, .null, .int 0, .int 0, .int 0, .int 0, .int 0, .null, .null, .null, .null])) := ⟨_, rfl⟩
  have f14_123 : M14 123 = .inl (cx_c G 0, 960, .inl (fun _ => 0)) := by rw [eM14, up_ne (by omega)]; exact f13_123
  have f14_124 : M14 124 = .inl (cx_c G 0, 6, .inl (fun _ => 0)) := by rw [eM14, up_ne (by omega)]; exact f13_124
  have f14_125 : M14 125 = .inl (cx_c G 0, 160, .inl (fun _ => 0)) := by rw [eM14, up_ne (by omega)]; exact f13_125
  have f14_126 : M14 126 = .inl (cx_c G 0, 8, .inl (fun _ => 0)) := by rw [eM14, up_ne (by omega)]; exact f13_126
  have f14_127 : M14 127 = .inl (cx_c G 0, 8, .inl (fun _ => 0)) := by rw [eM14, up_ne (by omega)]; exact f13_127
  have f14_128 : M14 128 = .inl (cx_c G 0, 7, .inl (fun _ => 0)) := by rw [eM14, up_ne (by omega)]; exact f13_128
  have f14_129 : M14 129 = .inl (cx_c G 0, 7, .inl (fun _ => 0)) := by rw [eM14, up_ne (by omega)]; exact f13_129
  have f14_122 : M14 122 = .inr (9, [.int 0, .ref (cx_b G + 123), .ref (cx_b G + 124), .int 0, .int 0, .ref (cx_b G + 125), .int 0, .ref (cx_b G + 126), .ref (cx_b G + 127), .int 0, .ref (cx_b G + 128), .ref (cx_b G + 129), .null, .null, .int 0, .int 0, .int 0, .int 0, .int 0, .int 0, .int 0, .int 0, .int 0, .int 0, .int 0, .int 0, .int 0, .int 0, .long 0, .int 0, .int 0, .int 0, .int 0, .int 0, .int 0, .int 0, .int 0, .null, .null, .int 0, .int 0, .null, .null, .null, .null, .int 0, .int 0, .int 0, .int 0, .int 0, .null, .null, .int 0, .int 0, .int 0, .int 0, .int 0, .null, .null, .null, .null]) := by rw [eM14]; exact up_at rfl
  have S : sg_ok G 123 (130) M14 s H locs (0 + 1 + 1 + 1 + 1 + 1 + 1 + 1) := by rw [eM14]; exact S
  refine lv_aload_n X.1.1 X.1.2.1 dX9_init_62 rfl (lv_at hl 0 rfl) ?_
  refine lv_bipush (v := 7) X.1.1 X.1.2.1 dX9_init_63 (by decide) ?_
  obtain ⟨M15, eM15⟩ : ∃ z, z = va_up M14 130 (.inl (cx_c G 0, 7, .inl (fun _ => 0))) := ⟨_, rfl⟩
  have f15_123 : M15 123 = .inl (cx_c G 0, 960, .inl (fun _ => 0)) := by rw [eM15, up_ne (by omega)]; exact f14_123
  have f15_124 : M15 124 = .inl (cx_c G 0, 6, .inl (fun _ => 0)) := by rw [eM15, up_ne (by omega)]; exact f14_124
  have f15_125 : M15 125 = .inl (cx_c G 0, 160, .inl (fun _ => 0)) := by rw [eM15, up_ne (by omega)]; exact f14_125
  have f15_126 : M15 126 = .inl (cx_c G 0, 8, .inl (fun _ => 0)) := by rw [eM15, up_ne (by omega)]; exact f14_126
  have f15_127 : M15 127 = .inl (cx_c G 0, 8, .inl (fun _ => 0)) := by rw [eM15, up_ne (by omega)]; exact f14_127
  have f15_128 : M15 128 = .inl (cx_c G 0, 7, .inl (fun _ => 0)) := by rw [eM15, up_ne (by omega)]; exact f14_128
  have f15_129 : M15 129 = .inl (cx_c G 0, 7, .inl (fun _ => 0)) := by rw [eM15, up_ne (by omega)]; exact f14_129
  have f15_122 : M15 122 = .inr (9, [.int 0, .ref (cx_b G + 123), .ref (cx_b G + 124), .int 0, .int 0, .ref (cx_b G + 125), .int 0, .ref (cx_b G + 126), .ref (cx_b G + 127), .int 0, .ref (cx_b G + 128), .ref (cx_b G + 129), .null, .null, .int 0, .int 0, .int 0, .int 0, .int 0, .int 0, .int 0, .int 0, .int 0, .int 0, .int 0, .int 0, .int 0, .int 0, .long 0, .int 0, .int 0, .int 0, .int 0, .int 0, .int 0, .int 0, .int 0, .null, .null, .int 0, .int 0, .null, .null, .null, .null, .int 0, .int 0, .int 0, .int 0, .int 0, .null, .null, .int 0, .int 0, .int 0, .int 0, .int 0, .null, .null, .null, .null]) := by rw [eM15, up_ne (by omega)]; exact f14_122
  have f15_130 : M15 130 = .inl (cx_c G 0, 7, .inl (fun _ => 0)) := by rw [eM15]; exact up_at rfl
  have S := S.to (M' := M15) (fun j hj => by rw [eM15, up_ne (by omega)])
  refine sg_newi (N := 7) X S f15_130 (by decide) rfl (Nat.le_of_ble_eq_true rfl) (Nat.le_of_ble_eq_true rfl) (Nat.le_of_ble_eq_true rfl) ac_i dX9_init_65 (fun H S => ?_)
  refine sg_putF X hin2 S (by omega) f15_122 (show vwCl[9]? = some (RX9, TX9, 61) from rfl) in_X9 tyX9_ok nmX9 12 (by decide) rfl lk_X9_35 rfl rfl rfl (Nat.le_of_ble_eq_true rfl) dX9_init_67 (fun H locs S => ?_)
  obtain ⟨M16, eM16⟩ : ∃ z, z = va_up M15 122 (.inr (9, [.int 0, .ref (cx_b G + 123), .ref (cx_b G + 124), .int 0, .int 0, .ref (cx_b G + 125), .int 0, .ref (cx_b G + 126), .ref (cx_b G + 127), .int 0, .ref (cx_b G + 128), .ref (cx_b G + 129), .ref (cx_b G + 130), .null, .int 0, .int 0, .int 0, .int 0, .int 0, .int 0, .int 0, .int 0, .int 0, .int 0, .int 0, .int 0, .int 0, .int 0, .long 0, .int 0, .int 0, .int 0, .int 0, .int 0, .int 0, .int 0, .int 0, .null, .null, .int 0, .int 0, .null, .null, .null, .null, .int 0, .int 0, .int 0, .int 0, .int 0, .null, .null, .int 0, .int 0, .int 0, .int 0, .int 0, .null, .null, .null, .null])) := ⟨_, rfl⟩
  have f16_123 : M16 123 = .inl (cx_c G 0, 960, .inl (fun _ => 0)) := by rw [eM16, up_ne (by omega)]; exact f15_123
  have f16_124 : M16 124 = .inl (cx_c G 0, 6, .inl (fun _ => 0)) := by rw [eM16, up_ne (by omega)]; exact f15_124
  have f16_125 : M16 125 = .inl (cx_c G 0, 160, .inl (fun _ => 0)) := by rw [eM16, up_ne (by omega)]; exact f15_125
  have f16_126 : M16 126 = .inl (cx_c G 0, 8, .inl (fun _ => 0)) := by rw [eM16, up_ne (by omega)]; exact f15_126
  have f16_127 : M16 127 = .inl (cx_c G 0, 8, .inl (fun _ => 0)) := by rw [eM16, up_ne (by omega)]; exact f15_127
  have f16_128 : M16 128 = .inl (cx_c G 0, 7, .inl (fun _ => 0)) := by rw [eM16, up_ne (by omega)]; exact f15_128
  have f16_129 : M16 129 = .inl (cx_c G 0, 7, .inl (fun _ => 0)) := by rw [eM16, up_ne (by omega)]; exact f15_129
  have f16_130 : M16 130 = .inl (cx_c G 0, 7, .inl (fun _ => 0)) := by rw [eM16, up_ne (by omega)]; exact f15_130
  have f16_122 : M16 122 = .inr (9, [.int 0, .ref (cx_b G + 123), .ref (cx_b G + 124), .int 0, .int 0, .ref (cx_b G + 125), .int 0, .ref (cx_b G + 126), .ref (cx_b G + 127), .int 0, .ref (cx_b G + 128), .ref (cx_b G + 129), .ref (cx_b G + 130), .null, .int 0, .int 0, .int 0, .int 0, .int 0, .int 0, .int 0, .int 0, .int 0, .int 0, .int 0, .int 0, .int 0, .int 0, .long 0, .int 0, .int 0, .int 0, .int 0, .int 0, .int 0, .int 0, .int 0, .null, .null, .int 0, .int 0, .null, .null, .null, .null, .int 0, .int 0, .int 0, .int 0, .int 0, .null, .null, .int 0, .int 0, .int 0, .int 0, .int 0, .null, .null, .null, .null]) := by rw [eM16]; exact up_at rfl
  have S : sg_ok G 123 (131) M16 s H locs (0 + 1 + 1 + 1 + 1 + 1 + 1 + 1 + 1) := by rw [eM16]; exact S
  refine lv_aload_n X.1.1 X.1.2.1 dX9_init_70 rfl (lv_at hl 0 rfl) ?_
  refine lv_bipush (v := 7) X.1.1 X.1.2.1 dX9_init_71 (by decide) ?_
  obtain ⟨M17, eM17⟩ : ∃ z, z = va_up M16 131 (.inl (cx_c G 0, 7, .inl (fun _ => 0))) := ⟨_, rfl⟩
  have f17_123 : M17 123 = .inl (cx_c G 0, 960, .inl (fun _ => 0)) := by rw [eM17, up_ne (by omega)]; exact f16_123
  have f17_124 : M17 124 = .inl (cx_c G 0, 6, .inl (fun _ => 0)) := by rw [eM17, up_ne (by omega)]; exact f16_124
  have f17_125 : M17 125 = .inl (cx_c G 0, 160, .inl (fun _ => 0)) := by rw [eM17, up_ne (by omega)]; exact f16_125
  have f17_126 : M17 126 = .inl (cx_c G 0, 8, .inl (fun _ => 0)) := by rw [eM17, up_ne (by omega)]; exact f16_126
  have f17_127 : M17 127 = .inl (cx_c G 0, 8, .inl (fun _ => 0)) := by rw [eM17, up_ne (by omega)]; exact f16_127
  have f17_128 : M17 128 = .inl (cx_c G 0, 7, .inl (fun _ => 0)) := by rw [eM17, up_ne (by omega)]; exact f16_128
  have f17_129 : M17 129 = .inl (cx_c G 0, 7, .inl (fun _ => 0)) := by rw [eM17, up_ne (by omega)]; exact f16_129
  have f17_130 : M17 130 = .inl (cx_c G 0, 7, .inl (fun _ => 0)) := by rw [eM17, up_ne (by omega)]; exact f16_130
  have f17_122 : M17 122 = .inr (9, [.int 0, .ref (cx_b G + 123), .ref (cx_b G + 124), .int 0, .int 0, .ref (cx_b G + 125), .int 0, .ref (cx_b G + 126), .ref (cx_b G + 127), .int 0, .ref (cx_b G + 128), .ref (cx_b G + 129), .ref (cx_b G + 130), .null, .int 0, .int 0, .int 0, .int 0, .int 0, .int 0, .int 0, .int 0, .int 0, .int 0, .int 0, .int 0, .int 0, .int 0, .long 0, .int 0, .int 0, .int 0, .int 0, .int 0, .int 0, .int 0, .int 0, .null, .null, .int 0, .int 0, .null, .null, .null, .null, .int 0, .int 0, .int 0, .int 0, .int 0, .null, .null, .int 0, .int 0, .int 0, .int 0, .int 0, .null, .null, .null, .null]) := by rw [eM17, up_ne (by omega)]; exact f16_122
  have f17_131 : M17 131 = .inl (cx_c G 0, 7, .inl (fun _ => 0)) := by rw [eM17]; exact up_at rfl
  have S := S.to (M' := M17) (fun j hj => by rw [eM17, up_ne (by omega)])
  refine sg_newi (N := 7) X S f17_131 (by decide) rfl (Nat.le_of_ble_eq_true rfl) (Nat.le_of_ble_eq_true rfl) (Nat.le_of_ble_eq_true rfl) ac_i dX9_init_73 (fun H S => ?_)
  refine sg_putF X hin2 S (by omega) f17_122 (show vwCl[9]? = some (RX9, TX9, 61) from rfl) in_X9 tyX9_ok nmX9 13 (by decide) rfl lk_X9_38 rfl rfl rfl (Nat.le_of_ble_eq_true rfl) dX9_init_75 (fun H locs S => ?_)
  obtain ⟨M18, eM18⟩ : ∃ z, z = va_up M17 122 (.inr (9, [.int 0, .ref (cx_b G + 123), .ref (cx_b G + 124), .int 0, .int 0, .ref (cx_b G + 125), .int 0, .ref (cx_b G + 126), .ref (cx_b G + 127), .int 0, .ref (cx_b G + 128), .ref (cx_b G + 129), .ref (cx_b G + 130), .ref (cx_b G + 131), .int 0, .int 0, .int 0, .int 0, .int 0, .int 0, .int 0, .int 0, .int 0, .int 0, .int 0, .int 0, .int 0, .int 0, .long 0, .int 0, .int 0, .int 0, .int 0, .int 0, .int 0, .int 0, .int 0, .null, .null, .int 0, .int 0, .null, .null, .null, .null, .int 0, .int 0, .int 0, .int 0, .int 0, .null, .null, .int 0, .int 0, .int 0, .int 0, .int 0, .null, .null, .null, .null])) := ⟨_, rfl⟩
  have f18_123 : M18 123 = .inl (cx_c G 0, 960, .inl (fun _ => 0)) := by rw [eM18, up_ne (by omega)]; exact f17_123
  have f18_124 : M18 124 = .inl (cx_c G 0, 6, .inl (fun _ => 0)) := by rw [eM18, up_ne (by omega)]; exact f17_124
  have f18_125 : M18 125 = .inl (cx_c G 0, 160, .inl (fun _ => 0)) := by rw [eM18, up_ne (by omega)]; exact f17_125
  have f18_126 : M18 126 = .inl (cx_c G 0, 8, .inl (fun _ => 0)) := by rw [eM18, up_ne (by omega)]; exact f17_126
  have f18_127 : M18 127 = .inl (cx_c G 0, 8, .inl (fun _ => 0)) := by rw [eM18, up_ne (by omega)]; exact f17_127
  have f18_128 : M18 128 = .inl (cx_c G 0, 7, .inl (fun _ => 0)) := by rw [eM18, up_ne (by omega)]; exact f17_128
  have f18_129 : M18 129 = .inl (cx_c G 0, 7, .inl (fun _ => 0)) := by rw [eM18, up_ne (by omega)]; exact f17_129
  have f18_130 : M18 130 = .inl (cx_c G 0, 7, .inl (fun _ => 0)) := by rw [eM18, up_ne (by omega)]; exact f17_130
  have f18_131 : M18 131 = .inl (cx_c G 0, 7, .inl (fun _ => 0)) := by rw [eM18, up_ne (by omega)]; exact f17_131
  have f18_122 : M18 122 = .inr (9, [.int 0, .ref (cx_b G + 123), .ref (cx_b G + 124), .int 0, .int 0, .ref (cx_b G + 125), .int 0, .ref (cx_b G + 126), .ref (cx_b G + 127), .int 0, .ref (cx_b G + 128), .ref (cx_b G + 129), .ref (cx_b G + 130), .ref (cx_b G + 131), .int 0, .int 0, .int 0, .int 0, .int 0, .int 0, .int 0, .int 0, .int 0, .int 0, .int 0, .int 0, .int 0, .int 0, .long 0, .int 0, .int 0, .int 0, .int 0, .int 0, .int 0, .int 0, .int 0, .null, .null, .int 0, .int 0, .null, .null, .null, .null, .int 0, .int 0, .int 0, .int 0, .int 0, .null, .null, .int 0, .int 0, .int 0, .int 0, .int 0, .null, .null, .null, .null]) := by rw [eM18]; exact up_at rfl
  have S : sg_ok G 123 (132) M18 s H locs (0 + 1 + 1 + 1 + 1 + 1 + 1 + 1 + 1 + 1) := by rw [eM18]; exact S
  refine lv_aload_n X.1.1 X.1.2.1 dX9_init_78 rfl (lv_at hl 0 rfl) ?_
  refine lv_bipush (v := 60) X.1.1 X.1.2.1 dX9_init_79 (by decide) ?_
  refine sg_put X S (by omega) f18_122 (show vwCl[9]? = some (RX9, TX9, 61) from rfl) in_X9 tyX9_ok nmX9 16 (by decide) lk_X9_41 rfl rfl rfl (Nat.le_of_ble_eq_true rfl) dX9_init_81 (fun H locs S => ?_)
  obtain ⟨M19, eM19⟩ : ∃ z, z = va_up M18 122 (.inr (9, [.int 0, .ref (cx_b G + 123), .ref (cx_b G + 124), .int 0, .int 0, .ref (cx_b G + 125), .int 0, .ref (cx_b G + 126), .ref (cx_b G + 127), .int 0, .ref (cx_b G + 128), .ref (cx_b G + 129), .ref (cx_b G + 130), .ref (cx_b G + 131), .int 0, .int 0, .int 60, .int 0, .int 0, .int 0, .int 0, .int 0, .int 0, .int 0, .int 0, .int 0, .int 0, .int 0, .long 0, .int 0, .int 0, .int 0, .int 0, .int 0, .int 0, .int 0, .int 0, .null, .null, .int 0, .int 0, .null, .null, .null, .null, .int 0, .int 0, .int 0, .int 0, .int 0, .null, .null, .int 0, .int 0, .int 0, .int 0, .int 0, .null, .null, .null, .null])) := ⟨_, rfl⟩
  have f19_123 : M19 123 = .inl (cx_c G 0, 960, .inl (fun _ => 0)) := by rw [eM19, up_ne (by omega)]; exact f18_123
  have f19_124 : M19 124 = .inl (cx_c G 0, 6, .inl (fun _ => 0)) := by rw [eM19, up_ne (by omega)]; exact f18_124
  have f19_125 : M19 125 = .inl (cx_c G 0, 160, .inl (fun _ => 0)) := by rw [eM19, up_ne (by omega)]; exact f18_125
  have f19_126 : M19 126 = .inl (cx_c G 0, 8, .inl (fun _ => 0)) := by rw [eM19, up_ne (by omega)]; exact f18_126
  have f19_127 : M19 127 = .inl (cx_c G 0, 8, .inl (fun _ => 0)) := by rw [eM19, up_ne (by omega)]; exact f18_127
  have f19_128 : M19 128 = .inl (cx_c G 0, 7, .inl (fun _ => 0)) := by rw [eM19, up_ne (by omega)]; exact f18_128
  have f19_129 : M19 129 = .inl (cx_c G 0, 7, .inl (fun _ => 0)) := by rw [eM19, up_ne (by omega)]; exact f18_129
  have f19_130 : M19 130 = .inl (cx_c G 0, 7, .inl (fun _ => 0)) := by rw [eM19, up_ne (by omega)]; exact f18_130
  have f19_131 : M19 131 = .inl (cx_c G 0, 7, .inl (fun _ => 0)) := by rw [eM19, up_ne (by omega)]; exact f18_131
  have f19_122 : M19 122 = .inr (9, [.int 0, .ref (cx_b G + 123), .ref (cx_b G + 124), .int 0, .int 0, .ref (cx_b G + 125), .int 0, .ref (cx_b G + 126), .ref (cx_b G + 127), .int 0, .ref (cx_b G + 128), .ref (cx_b G + 129), .ref (cx_b G + 130), .ref (cx_b G + 131), .int 0, .int 0, .int 60, .int 0, .int 0, .int 0, .int 0, .int 0, .int 0, .int 0, .int 0, .int 0, .int 0, .int 0, .long 0, .int 0, .int 0, .int 0, .int 0, .int 0, .int 0, .int 0, .int 0, .null, .null, .int 0, .int 0, .null, .null, .null, .null, .int 0, .int 0, .int 0, .int 0, .int 0, .null, .null, .int 0, .int 0, .int 0, .int 0, .int 0, .null, .null, .null, .null]) := by rw [eM19]; exact up_at rfl
  have S : sg_ok G 123 (132) M19 s H locs (0 + 1 + 1 + 1 + 1 + 1 + 1 + 1 + 1 + 1) := by rw [eM19]; exact S
  refine lv_aload_n X.1.1 X.1.2.1 dX9_init_84 rfl (lv_at hl 0 rfl) ?_
  refine lv_bipush (v := 8) X.1.1 X.1.2.1 dX9_init_85 (by decide) ?_
  obtain ⟨M20, eM20⟩ : ∃ z, z = va_up M19 132 (.inl (cx_c G 0, 8, .inl (fun _ => 0))) := ⟨_, rfl⟩
  have f20_123 : M20 123 = .inl (cx_c G 0, 960, .inl (fun _ => 0)) := by rw [eM20, up_ne (by omega)]; exact f19_123
  have f20_124 : M20 124 = .inl (cx_c G 0, 6, .inl (fun _ => 0)) := by rw [eM20, up_ne (by omega)]; exact f19_124
  have f20_125 : M20 125 = .inl (cx_c G 0, 160, .inl (fun _ => 0)) := by rw [eM20, up_ne (by omega)]; exact f19_125
  have f20_126 : M20 126 = .inl (cx_c G 0, 8, .inl (fun _ => 0)) := by rw [eM20, up_ne (by omega)]; exact f19_126
  have f20_127 : M20 127 = .inl (cx_c G 0, 8, .inl (fun _ => 0)) := by rw [eM20, up_ne (by omega)]; exact f19_127
  have f20_128 : M20 128 = .inl (cx_c G 0, 7, .inl (fun _ => 0)) := by rw [eM20, up_ne (by omega)]; exact f19_128
  have f20_129 : M20 129 = .inl (cx_c G 0, 7, .inl (fun _ => 0)) := by rw [eM20, up_ne (by omega)]; exact f19_129
  have f20_130 : M20 130 = .inl (cx_c G 0, 7, .inl (fun _ => 0)) := by rw [eM20, up_ne (by omega)]; exact f19_130
  have f20_131 : M20 131 = .inl (cx_c G 0, 7, .inl (fun _ => 0)) := by rw [eM20, up_ne (by omega)]; exact f19_131
  have f20_122 : M20 122 = .inr (9, [.int 0, .ref (cx_b G + 123), .ref (cx_b G + 124), .int 0, .int 0, .ref (cx_b G + 125), .int 0, .ref (cx_b G + 126), .ref (cx_b G + 127), .int 0, .ref (cx_b G + 128), .ref (cx_b G + 129), .ref (cx_b G + 130), .ref (cx_b G + 131), .int 0, .int 0, .int 60, .int 0, .int 0, .int 0, .int 0, .int 0, .int 0, .int 0, .int 0, .int 0, .int 0, .int 0, .long 0, .int 0, .int 0, .int 0, .int 0, .int 0, .int 0, .int 0, .int 0, .null, .null, .int 0, .int 0, .null, .null, .null, .null, .int 0, .int 0, .int 0, .int 0, .int 0, .null, .null, .int 0, .int 0, .int 0, .int 0, .int 0, .null, .null, .null, .null]) := by rw [eM20, up_ne (by omega)]; exact f19_122
  have f20_132 : M20 132 = .inl (cx_c G 0, 8, .inl (fun _ => 0)) := by rw [eM20]; exact up_at rfl
  have S := S.to (M' := M20) (fun j hj => by rw [eM20, up_ne (by omega)])
  refine sg_newi (N := 8) X S f20_132 (by decide) rfl (Nat.le_of_ble_eq_true rfl) (Nat.le_of_ble_eq_true rfl) (Nat.le_of_ble_eq_true rfl) ac_i dX9_init_87 (fun H S => ?_)
  refine sg_putF X hin2 S (by omega) f20_122 (show vwCl[9]? = some (RX9, TX9, 61) from rfl) in_X9 tyX9_ok nmX9 37 (by decide) rfl lk_X9_44 rfl rfl rfl (Nat.le_of_ble_eq_true rfl) dX9_init_89 (fun H locs S => ?_)
  obtain ⟨M21, eM21⟩ : ∃ z, z = va_up M20 122 (.inr (9, [.int 0, .ref (cx_b G + 123), .ref (cx_b G + 124), .int 0, .int 0, .ref (cx_b G + 125), .int 0, .ref (cx_b G + 126), .ref (cx_b G + 127), .int 0, .ref (cx_b G + 128), .ref (cx_b G + 129), .ref (cx_b G + 130), .ref (cx_b G + 131), .int 0, .int 0, .int 60, .int 0, .int 0, .int 0, .int 0, .int 0, .int 0, .int 0, .int 0, .int 0, .int 0, .int 0, .long 0, .int 0, .int 0, .int 0, .int 0, .int 0, .int 0, .int 0, .int 0, .ref (cx_b G + 132), .null, .int 0, .int 0, .null, .null, .null, .null, .int 0, .int 0, .int 0, .int 0, .int 0, .null, .null, .int 0, .int 0, .int 0, .int 0, .int 0, .null, .null, .null, .null])) := ⟨_, rfl⟩
  have f21_123 : M21 123 = .inl (cx_c G 0, 960, .inl (fun _ => 0)) := by rw [eM21, up_ne (by omega)]; exact f20_123
  have f21_124 : M21 124 = .inl (cx_c G 0, 6, .inl (fun _ => 0)) := by rw [eM21, up_ne (by omega)]; exact f20_124
  have f21_125 : M21 125 = .inl (cx_c G 0, 160, .inl (fun _ => 0)) := by rw [eM21, up_ne (by omega)]; exact f20_125
  have f21_126 : M21 126 = .inl (cx_c G 0, 8, .inl (fun _ => 0)) := by rw [eM21, up_ne (by omega)]; exact f20_126
  have f21_127 : M21 127 = .inl (cx_c G 0, 8, .inl (fun _ => 0)) := by rw [eM21, up_ne (by omega)]; exact f20_127
  have f21_128 : M21 128 = .inl (cx_c G 0, 7, .inl (fun _ => 0)) := by rw [eM21, up_ne (by omega)]; exact f20_128
  have f21_129 : M21 129 = .inl (cx_c G 0, 7, .inl (fun _ => 0)) := by rw [eM21, up_ne (by omega)]; exact f20_129
  have f21_130 : M21 130 = .inl (cx_c G 0, 7, .inl (fun _ => 0)) := by rw [eM21, up_ne (by omega)]; exact f20_130
  have f21_131 : M21 131 = .inl (cx_c G 0, 7, .inl (fun _ => 0)) := by rw [eM21, up_ne (by omega)]; exact f20_131
  have f21_132 : M21 132 = .inl (cx_c G 0, 8, .inl (fun _ => 0)) := by rw [eM21, up_ne (by omega)]; exact f20_132
  have f21_122 : M21 122 = .inr (9, [.int 0, .ref (cx_b G + 123), .ref (cx_b G + 124), .int 0, .int 0, .ref (cx_b G + 125), .int 0, .ref (cx_b G + 126), .ref (cx_b G + 127), .int 0, .ref (cx_b G + 128), .ref (cx_b G + 129), .ref (cx_b G + 130), .ref (cx_b G + 131), .int 0, .int 0, .int 60, .int 0, .int 0, .int 0, .int 0, .int 0, .int 0, .int 0, .int 0, .int 0, .int 0, .int 0, .long 0, .int 0, .int 0, .int 0, .int 0, .int 0, .int 0, .int 0, .int 0, .ref (cx_b G + 132), .null, .int 0, .int 0, .null, .null, .null, .null, .int 0, .int 0, .int 0, .int 0, .int 0, .null, .null, .int 0, .int 0, .int 0, .int 0, .int 0, .null, .null, .null, .null]) := by rw [eM21]; exact up_at rfl
  have S : sg_ok G 123 (133) M21 s H locs (0 + 1 + 1 + 1 + 1 + 1 + 1 + 1 + 1 + 1 + 1) := by rw [eM21]; exact S
  refine lv_aload_n X.1.1 X.1.2.1 dX9_init_92 rfl (lv_at hl 0 rfl) ?_
  refine lv_bipush (v := 8) X.1.1 X.1.2.1 dX9_init_93 (by decide) ?_
  obtain ⟨M22, eM22⟩ : ∃ z, z = va_up M21 133 (.inl (cx_c G 0, 8, .inl (fun _ => 0))) := ⟨_, rfl⟩
  have f22_123 : M22 123 = .inl (cx_c G 0, 960, .inl (fun _ => 0)) := by rw [eM22, up_ne (by omega)]; exact f21_123
  have f22_124 : M22 124 = .inl (cx_c G 0, 6, .inl (fun _ => 0)) := by rw [eM22, up_ne (by omega)]; exact f21_124
  have f22_125 : M22 125 = .inl (cx_c G 0, 160, .inl (fun _ => 0)) := by rw [eM22, up_ne (by omega)]; exact f21_125
  have f22_126 : M22 126 = .inl (cx_c G 0, 8, .inl (fun _ => 0)) := by rw [eM22, up_ne (by omega)]; exact f21_126
  have f22_127 : M22 127 = .inl (cx_c G 0, 8, .inl (fun _ => 0)) := by rw [eM22, up_ne (by omega)]; exact f21_127
  have f22_128 : M22 128 = .inl (cx_c G 0, 7, .inl (fun _ => 0)) := by rw [eM22, up_ne (by omega)]; exact f21_128
  have f22_129 : M22 129 = .inl (cx_c G 0, 7, .inl (fun _ => 0)) := by rw [eM22, up_ne (by omega)]; exact f21_129
  have f22_130 : M22 130 = .inl (cx_c G 0, 7, .inl (fun _ => 0)) := by rw [eM22, up_ne (by omega)]; exact f21_130
  have f22_131 : M22 131 = .inl (cx_c G 0, 7, .inl (fun _ => 0)) := by rw [eM22, up_ne (by omega)]; exact f21_131
  have f22_132 : M22 132 = .inl (cx_c G 0, 8, .inl (fun _ => 0)) := by rw [eM22, up_ne (by omega)]; exact f21_132
  have f22_122 : M22 122 = .inr (9, [.int 0, .ref (cx_b G + 123), .ref (cx_b G + 124), .int 0, .int 0, .ref (cx_b G + 125), .int 0, .ref (cx_b G + 126), .ref (cx_b G + 127), .int 0, .ref (cx_b G + 128), .ref (cx_b G + 129), .ref (cx_b G + 130), .ref (cx_b G + 131), .int 0, .int 0, .int 60, .int 0, .int 0, .int 0, .int 0, .int 0, .int 0, .int 0, .int 0, .int 0, .int 0, .int 0, .long 0, .int 0, .int 0, .int 0, .int 0, .int 0, .int 0, .int 0, .int 0, .ref (cx_b G + 132), .null, .int 0, .int 0, .null, .null, .null, .null, .int 0, .int 0, .int 0, .int 0, .int 0, .null, .null, .int 0, .int 0, .int 0, .int 0, .int 0, .null, .null, .null, .null]) := by rw [eM22, up_ne (by omega)]; exact f21_122
  have f22_133 : M22 133 = .inl (cx_c G 0, 8, .inl (fun _ => 0)) := by rw [eM22]; exact up_at rfl
  have S := S.to (M' := M22) (fun j hj => by rw [eM22, up_ne (by omega)])
  refine sg_newi (N := 8) X S f22_133 (by decide) rfl (Nat.le_of_ble_eq_true rfl) (Nat.le_of_ble_eq_true rfl) (Nat.le_of_ble_eq_true rfl) ac_i dX9_init_95 (fun H S => ?_)
  refine sg_putF X hin2 S (by omega) f22_122 (show vwCl[9]? = some (RX9, TX9, 61) from rfl) in_X9 tyX9_ok nmX9 38 (by decide) rfl lk_X9_47 rfl rfl rfl (Nat.le_of_ble_eq_true rfl) dX9_init_97 (fun H locs S => ?_)
  obtain ⟨M23, eM23⟩ : ∃ z, z = va_up M22 122 (.inr (9, [.int 0, .ref (cx_b G + 123), .ref (cx_b G + 124), .int 0, .int 0, .ref (cx_b G + 125), .int 0, .ref (cx_b G + 126), .ref (cx_b G + 127), .int 0, .ref (cx_b G + 128), .ref (cx_b G + 129), .ref (cx_b G + 130), .ref (cx_b G + 131), .int 0, .int 0, .int 60, .int 0, .int 0, .int 0, .int 0, .int 0, .int 0, .int 0, .int 0, .int 0, .int 0, .int 0, .long 0, .int 0, .int 0, .int 0, .int 0, .int 0, .int 0, .int 0, .int 0, .ref (cx_b G + 132), .ref (cx_b G + 133), .int 0, .int 0, .null, .null, .null, .null, .int 0, .int 0, .int 0, .int 0, .int 0, .null, .null, .int 0, .int 0, .int 0, .int 0, .int 0, .null, .null, .null, .null])) := ⟨_, rfl⟩
  have f23_123 : M23 123 = .inl (cx_c G 0, 960, .inl (fun _ => 0)) := by rw [eM23, up_ne (by omega)]; exact f22_123
  have f23_124 : M23 124 = .inl (cx_c G 0, 6, .inl (fun _ => 0)) := by rw [eM23, up_ne (by omega)]; exact f22_124
  have f23_125 : M23 125 = .inl (cx_c G 0, 160, .inl (fun _ => 0)) := by rw [eM23, up_ne (by omega)]; exact f22_125
  have f23_126 : M23 126 = .inl (cx_c G 0, 8, .inl (fun _ => 0)) := by rw [eM23, up_ne (by omega)]; exact f22_126
  have f23_127 : M23 127 = .inl (cx_c G 0, 8, .inl (fun _ => 0)) := by rw [eM23, up_ne (by omega)]; exact f22_127
  have f23_128 : M23 128 = .inl (cx_c G 0, 7, .inl (fun _ => 0)) := by rw [eM23, up_ne (by omega)]; exact f22_128
  have f23_129 : M23 129 = .inl (cx_c G 0, 7, .inl (fun _ => 0)) := by rw [eM23, up_ne (by omega)]; exact f22_129
  have f23_130 : M23 130 = .inl (cx_c G 0, 7, .inl (fun _ => 0)) := by rw [eM23, up_ne (by omega)]; exact f22_130
  have f23_131 : M23 131 = .inl (cx_c G 0, 7, .inl (fun _ => 0)) := by rw [eM23, up_ne (by omega)]; exact f22_131
  have f23_132 : M23 132 = .inl (cx_c G 0, 8, .inl (fun _ => 0)) := by rw [eM23, up_ne (by omega)]; exact f22_132
  have f23_133 : M23 133 = .inl (cx_c G 0, 8, .inl (fun _ => 0)) := by rw [eM23, up_ne (by omega)]; exact f22_133
  have f23_122 : M23 122 = .inr (9, [.int 0, .ref (cx_b G + 123), .ref (cx_b G + 124), .int 0, .int 0, .ref (cx_b G + 125), .int 0, .ref (cx_b G + 126), .ref (cx_b G + 127), .int 0, .ref (cx_b G + 128), .ref (cx_b G + 129), .ref (cx_b G + 130), .ref (cx_b G + 131), .int 0, .int 0, .int 60, .int 0, .int 0, .int 0, .int 0, .int 0, .int 0, .int 0, .int 0, .int 0, .int 0, .int 0, .long 0, .int 0, .int 0, .int 0, .int 0, .int 0, .int 0, .int 0, .int 0, .ref (cx_b G + 132), .ref (cx_b G + 133), .int 0, .int 0, .null, .null, .null, .null, .int 0, .int 0, .int 0, .int 0, .int 0, .null, .null, .int 0, .int 0, .int 0, .int 0, .int 0, .null, .null, .null, .null]) := by rw [eM23]; exact up_at rfl
  have S : sg_ok G 123 (134) M23 s H locs (0 + 1 + 1 + 1 + 1 + 1 + 1 + 1 + 1 + 1 + 1 + 1) := by rw [eM23]; exact S
  refine lv_aload_n X.1.1 X.1.2.1 dX9_init_100 rfl (lv_at hl 0 rfl) ?_
  refine lv_bipush (v := 7) X.1.1 X.1.2.1 dX9_init_101 (by decide) ?_
  obtain ⟨M24, eM24⟩ : ∃ z, z = va_up M23 134 (.inl (cx_c G 0, 7, .inl (fun _ => 0))) := ⟨_, rfl⟩
  have f24_123 : M24 123 = .inl (cx_c G 0, 960, .inl (fun _ => 0)) := by rw [eM24, up_ne (by omega)]; exact f23_123
  have f24_124 : M24 124 = .inl (cx_c G 0, 6, .inl (fun _ => 0)) := by rw [eM24, up_ne (by omega)]; exact f23_124
  have f24_125 : M24 125 = .inl (cx_c G 0, 160, .inl (fun _ => 0)) := by rw [eM24, up_ne (by omega)]; exact f23_125
  have f24_126 : M24 126 = .inl (cx_c G 0, 8, .inl (fun _ => 0)) := by rw [eM24, up_ne (by omega)]; exact f23_126
  have f24_127 : M24 127 = .inl (cx_c G 0, 8, .inl (fun _ => 0)) := by rw [eM24, up_ne (by omega)]; exact f23_127
  have f24_128 : M24 128 = .inl (cx_c G 0, 7, .inl (fun _ => 0)) := by rw [eM24, up_ne (by omega)]; exact f23_128
  have f24_129 : M24 129 = .inl (cx_c G 0, 7, .inl (fun _ => 0)) := by rw [eM24, up_ne (by omega)]; exact f23_129
  have f24_130 : M24 130 = .inl (cx_c G 0, 7, .inl (fun _ => 0)) := by rw [eM24, up_ne (by omega)]; exact f23_130
  have f24_131 : M24 131 = .inl (cx_c G 0, 7, .inl (fun _ => 0)) := by rw [eM24, up_ne (by omega)]; exact f23_131
  have f24_132 : M24 132 = .inl (cx_c G 0, 8, .inl (fun _ => 0)) := by rw [eM24, up_ne (by omega)]; exact f23_132
  have f24_133 : M24 133 = .inl (cx_c G 0, 8, .inl (fun _ => 0)) := by rw [eM24, up_ne (by omega)]; exact f23_133
  have f24_122 : M24 122 = .inr (9, [.int 0, .ref (cx_b G + 123), .ref (cx_b G + 124), .int 0, .int 0, .ref (cx_b G + 125), .int 0, .ref (cx_b G + 126), .ref (cx_b G + 127), .int 0, .ref (cx_b G + 128), .ref (cx_b G + 129), .ref (cx_b G + 130), .ref (cx_b G + 131), .int 0, .int 0, .int 60, .int 0, .int 0, .int 0, .int 0, .int 0, .int 0, .int 0, .int 0, .int 0, .int 0, .int 0, .long 0, .int 0, .int 0, .int 0, .int 0, .int 0, .int 0, .int 0, .int 0, .ref (cx_b G + 132), .ref (cx_b G + 133), .int 0, .int 0, .null, .null, .null, .null, .int 0, .int 0, .int 0, .int 0, .int 0, .null, .null, .int 0, .int 0, .int 0, .int 0, .int 0, .null, .null, .null, .null]) := by rw [eM24, up_ne (by omega)]; exact f23_122
  have f24_134 : M24 134 = .inl (cx_c G 0, 7, .inl (fun _ => 0)) := by rw [eM24]; exact up_at rfl
  have S := S.to (M' := M24) (fun j hj => by rw [eM24, up_ne (by omega)])
  refine sg_newi (N := 7) X S f24_134 (by decide) rfl (Nat.le_of_ble_eq_true rfl) (Nat.le_of_ble_eq_true rfl) (Nat.le_of_ble_eq_true rfl) ac_i dX9_init_103 (fun H S => ?_)
  refine sg_putF X hin2 S (by omega) f24_122 (show vwCl[9]? = some (RX9, TX9, 61) from rfl) in_X9 tyX9_ok nmX9 41 (by decide) rfl lk_X9_50 rfl rfl rfl (Nat.le_of_ble_eq_true rfl) dX9_init_105 (fun H locs S => ?_)
  obtain ⟨M25, eM25⟩ : ∃ z, z = va_up M24 122 (.inr (9, [.int 0, .ref (cx_b G + 123), .ref (cx_b G + 124), .int 0, .int 0, .ref (cx_b G + 125), .int 0, .ref (cx_b G + 126), .ref (cx_b G + 127), .int 0, .ref (cx_b G + 128), .ref (cx_b G + 129), .ref (cx_b G + 130), .ref (cx_b G + 131), .int 0, .int 0, .int 60, .int 0, .int 0, .int 0, .int 0, .int 0, .int 0, .int 0, .int 0, .int 0, .int 0, .int 0, .long 0, .int 0, .int 0, .int 0, .int 0, .int 0, .int 0, .int 0, .int 0, .ref (cx_b G + 132), .ref (cx_b G + 133), .int 0, .int 0, .ref (cx_b G + 134), .null, .null, .null, .int 0, .int 0, .int 0, .int 0, .int 0, .null, .null, .int 0, .int 0, .int 0, .int 0, .int 0, .null, .null, .null, .null])) := ⟨_, rfl⟩
  have f25_123 : M25 123 = .inl (cx_c G 0, 960, .inl (fun _ => 0)) := by rw [eM25, up_ne (by omega)]; exact f24_123
  have f25_124 : M25 124 = .inl (cx_c G 0, 6, .inl (fun _ => 0)) := by rw [eM25, up_ne (by omega)]; exact f24_124
  have f25_125 : M25 125 = .inl (cx_c G 0, 160, .inl (fun _ => 0)) := by rw [eM25, up_ne (by omega)]; exact f24_125
  have f25_126 : M25 126 = .inl (cx_c G 0, 8, .inl (fun _ => 0)) := by rw [eM25, up_ne (by omega)]; exact f24_126
  have f25_127 : M25 127 = .inl (cx_c G 0, 8, .inl (fun _ => 0)) := by rw [eM25, up_ne (by omega)]; exact f24_127
  have f25_128 : M25 128 = .inl (cx_c G 0, 7, .inl (fun _ => 0)) := by rw [eM25, up_ne (by omega)]; exact f24_128
  have f25_129 : M25 129 = .inl (cx_c G 0, 7, .inl (fun _ => 0)) := by rw [eM25, up_ne (by omega)]; exact f24_129
  have f25_130 : M25 130 = .inl (cx_c G 0, 7, .inl (fun _ => 0)) := by rw [eM25, up_ne (by omega)]; exact f24_130
  have f25_131 : M25 131 = .inl (cx_c G 0, 7, .inl (fun _ => 0)) := by rw [eM25, up_ne (by omega)]; exact f24_131
  have f25_132 : M25 132 = .inl (cx_c G 0, 8, .inl (fun _ => 0)) := by rw [eM25, up_ne (by omega)]; exact f24_132
  have f25_133 : M25 133 = .inl (cx_c G 0, 8, .inl (fun _ => 0)) := by rw [eM25, up_ne (by omega)]; exact f24_133
  have f25_134 : M25 134 = .inl (cx_c G 0, 7, .inl (fun _ => 0)) := by rw [eM25, up_ne (by omega)]; exact f24_134
  have f25_122 : M25 122 = .inr (9, [.int 0, .ref (cx_b G + 123), .ref (cx_b G + 124), .int 0, .int 0, .ref (cx_b G + 125), .int 0, .ref (cx_b G + 126), .ref (cx_b G + 127), .int 0, .ref (cx_b G + 128), .ref (cx_b G + 129), .ref (cx_b G + 130), .ref (cx_b G + 131), .int 0, .int 0, .int 60, .int 0, .int 0, .int 0, .int 0, .int 0, .int 0, .int 0, .int 0, .int 0, .int 0, .int 0, .long 0, .int 0, .int 0, .int 0, .int 0, .int 0, .int 0, .int 0, .int 0, .ref (cx_b G + 132), .ref (cx_b G + 133), .int 0, .int 0, .ref (cx_b G + 134), .null, .null, .null, .int 0, .int 0, .int 0, .int 0, .int 0, .null, .null, .int 0, .int 0, .int 0, .int 0, .int 0, .null, .null, .null, .null]) := by rw [eM25]; exact up_at rfl
  have S : sg_ok G 123 (135) M25 s H locs (0 + 1 + 1 + 1 + 1 + 1 + 1 + 1 + 1 + 1 + 1 + 1 + 1) := by rw [eM25]; exact S
  refine lv_aload_n X.1.1 X.1.2.1 dX9_init_108 rfl (lv_at hl 0 rfl) ?_
  refine lv_bipush (v := 56) X.1.1 X.1.2.1 dX9_init_109 (by decide) ?_
  obtain ⟨M26, eM26⟩ : ∃ z, z = va_up M25 135 (.inl (cx_c G 0, 56, .inl (fun _ => 0))) := ⟨_, rfl⟩
  have f26_123 : M26 123 = .inl (cx_c G 0, 960, .inl (fun _ => 0)) := by rw [eM26, up_ne (by omega)]; exact f25_123
  have f26_124 : M26 124 = .inl (cx_c G 0, 6, .inl (fun _ => 0)) := by rw [eM26, up_ne (by omega)]; exact f25_124
  have f26_125 : M26 125 = .inl (cx_c G 0, 160, .inl (fun _ => 0)) := by rw [eM26, up_ne (by omega)]; exact f25_125
  have f26_126 : M26 126 = .inl (cx_c G 0, 8, .inl (fun _ => 0)) := by rw [eM26, up_ne (by omega)]; exact f25_126
  have f26_127 : M26 127 = .inl (cx_c G 0, 8, .inl (fun _ => 0)) := by rw [eM26, up_ne (by omega)]; exact f25_127
  have f26_128 : M26 128 = .inl (cx_c G 0, 7, .inl (fun _ => 0)) := by rw [eM26, up_ne (by omega)]; exact f25_128
  have f26_129 : M26 129 = .inl (cx_c G 0, 7, .inl (fun _ => 0)) := by rw [eM26, up_ne (by omega)]; exact f25_129
  have f26_130 : M26 130 = .inl (cx_c G 0, 7, .inl (fun _ => 0)) := by rw [eM26, up_ne (by omega)]; exact f25_130
  have f26_131 : M26 131 = .inl (cx_c G 0, 7, .inl (fun _ => 0)) := by rw [eM26, up_ne (by omega)]; exact f25_131
  have f26_132 : M26 132 = .inl (cx_c G 0, 8, .inl (fun _ => 0)) := by rw [eM26, up_ne (by omega)]; exact f25_132
  have f26_133 : M26 133 = .inl (cx_c G 0, 8, .inl (fun _ => 0)) := by rw [eM26, up_ne (by omega)]; exact f25_133
  have f26_134 : M26 134 = .inl (cx_c G 0, 7, .inl (fun _ => 0)) := by rw [eM26, up_ne (by omega)]; exact f25_134
  have f26_122 : M26 122 = .inr (9, [.int 0, .ref (cx_b G + 123), .ref (cx_b G + 124), .int 0, .int 0, .ref (cx_b G + 125), .int 0, .ref (cx_b G + 126), .ref (cx_b G + 127), .int 0, .ref (cx_b G + 128), .ref (cx_b G + 129), .ref (cx_b G + 130), .ref (cx_b G + 131), .int 0, .int 0, .int 60, .int 0, .int 0, .int 0, .int 0, .int 0, .int 0, .int 0, .int 0, .int 0, .int 0, .int 0, .long 0, .int 0, .int 0, .int 0, .int 0, .int 0, .int 0, .int 0, .int 0, .ref (cx_b G + 132), .ref (cx_b G + 133), .int 0, .int 0, .ref (cx_b G + 134), .null, .null, .null, .int 0, .int 0, .int 0, .int 0, .int 0, .null, .null, .int 0, .int 0, .int 0, .int 0, .int 0, .null, .null, .null, .null]) := by rw [eM26, up_ne (by omega)]; exact f25_122
  have f26_135 : M26 135 = .inl (cx_c G 0, 56, .inl (fun _ => 0)) := by rw [eM26]; exact up_at rfl
  have S := S.to (M' := M26) (fun j hj => by rw [eM26, up_ne (by omega)])
  refine sg_newi (N := 56) X S f26_135 (by decide) rfl (Nat.le_of_ble_eq_true rfl) (Nat.le_of_ble_eq_true rfl) (Nat.le_of_ble_eq_true rfl) ac_i dX9_init_111 (fun H S => ?_)
  refine sg_putF X hin2 S (by omega) f26_122 (show vwCl[9]? = some (RX9, TX9, 61) from rfl) in_X9 tyX9_ok nmX9 42 (by decide) rfl lk_X9_53 rfl rfl rfl (Nat.le_of_ble_eq_true rfl) dX9_init_113 (fun H locs S => ?_)
  obtain ⟨M27, eM27⟩ : ∃ z, z = va_up M26 122 (.inr (9, [.int 0, .ref (cx_b G + 123), .ref (cx_b G + 124), .int 0, .int 0, .ref (cx_b G + 125), .int 0, .ref (cx_b G + 126), .ref (cx_b G + 127), .int 0, .ref (cx_b G + 128), .ref (cx_b G + 129), .ref (cx_b G + 130), .ref (cx_b G + 131), .int 0, .int 0, .int 60, .int 0, .int 0, .int 0, .int 0, .int 0, .int 0, .int 0, .int 0, .int 0, .int 0, .int 0, .long 0, .int 0, .int 0, .int 0, .int 0, .int 0, .int 0, .int 0, .int 0, .ref (cx_b G + 132), .ref (cx_b G + 133), .int 0, .int 0, .ref (cx_b G + 134), .ref (cx_b G + 135), .null, .null, .int 0, .int 0, .int 0, .int 0, .int 0, .null, .null, .int 0, .int 0, .int 0, .int 0, .int 0, .null, .null, .null, .null])) := ⟨_, rfl⟩
  have f27_123 : M27 123 = .inl (cx_c G 0, 960, .inl (fun _ => 0)) := by rw [eM27, up_ne (by omega)]; exact f26_123
  have f27_124 : M27 124 = .inl (cx_c G 0, 6, .inl (fun _ => 0)) := by rw [eM27, up_ne (by omega)]; exact f26_124
  have f27_125 : M27 125 = .inl (cx_c G 0, 160, .inl (fun _ => 0)) := by rw [eM27, up_ne (by omega)]; exact f26_125
  have f27_126 : M27 126 = .inl (cx_c G 0, 8, .inl (fun _ => 0)) := by rw [eM27, up_ne (by omega)]; exact f26_126
  have f27_127 : M27 127 = .inl (cx_c G 0, 8, .inl (fun _ => 0)) := by rw [eM27, up_ne (by omega)]; exact f26_127
  have f27_128 : M27 128 = .inl (cx_c G 0, 7, .inl (fun _ => 0)) := by rw [eM27, up_ne (by omega)]; exact f26_128
  have f27_129 : M27 129 = .inl (cx_c G 0, 7, .inl (fun _ => 0)) := by rw [eM27, up_ne (by omega)]; exact f26_129
  have f27_130 : M27 130 = .inl (cx_c G 0, 7, .inl (fun _ => 0)) := by rw [eM27, up_ne (by omega)]; exact f26_130
  have f27_131 : M27 131 = .inl (cx_c G 0, 7, .inl (fun _ => 0)) := by rw [eM27, up_ne (by omega)]; exact f26_131
  have f27_132 : M27 132 = .inl (cx_c G 0, 8, .inl (fun _ => 0)) := by rw [eM27, up_ne (by omega)]; exact f26_132
  have f27_133 : M27 133 = .inl (cx_c G 0, 8, .inl (fun _ => 0)) := by rw [eM27, up_ne (by omega)]; exact f26_133
  have f27_134 : M27 134 = .inl (cx_c G 0, 7, .inl (fun _ => 0)) := by rw [eM27, up_ne (by omega)]; exact f26_134
  have f27_135 : M27 135 = .inl (cx_c G 0, 56, .inl (fun _ => 0)) := by rw [eM27, up_ne (by omega)]; exact f26_135
  have f27_122 : M27 122 = .inr (9, [.int 0, .ref (cx_b G + 123), .ref (cx_b G + 124), .int 0, .int 0, .ref (cx_b G + 125), .int 0, .ref (cx_b G + 126), .ref (cx_b G + 127), .int 0, .ref (cx_b G + 128), .ref (cx_b G + 129), .ref (cx_b G + 130), .ref (cx_b G + 131), .int 0, .int 0, .int 60, .int 0, .int 0, .int 0, .int 0, .int 0, .int 0, .int 0, .int 0, .int 0, .int 0, .int 0, .long 0, .int 0, .int 0, .int 0, .int 0, .int 0, .int 0, .int 0, .int 0, .ref (cx_b G + 132), .ref (cx_b G + 133), .int 0, .int 0, .ref (cx_b G + 134), .ref (cx_b G + 135), .null, .null, .int 0, .int 0, .int 0, .int 0, .int 0, .null, .null, .int 0, .int 0, .int 0, .int 0, .int 0, .null, .null, .null, .null]) := by rw [eM27]; exact up_at rfl
  have S : sg_ok G 123 (136) M27 s H locs (0 + 1 + 1 + 1 + 1 + 1 + 1 + 1 + 1 + 1 + 1 + 1 + 1 + 1) := by rw [eM27]; exact S
  refine lv_aload_n X.1.1 X.1.2.1 dX9_init_116 rfl (lv_at hl 0 rfl) ?_
  refine lv_bipush (v := 64) X.1.1 X.1.2.1 dX9_init_117 (by decide) ?_
  obtain ⟨M28, eM28⟩ : ∃ z, z = va_up M27 136 (.inl (cx_c G 0, 64, .inl (fun _ => 0))) := ⟨_, rfl⟩
  have f28_123 : M28 123 = .inl (cx_c G 0, 960, .inl (fun _ => 0)) := by rw [eM28, up_ne (by omega)]; exact f27_123
  have f28_124 : M28 124 = .inl (cx_c G 0, 6, .inl (fun _ => 0)) := by rw [eM28, up_ne (by omega)]; exact f27_124
  have f28_125 : M28 125 = .inl (cx_c G 0, 160, .inl (fun _ => 0)) := by rw [eM28, up_ne (by omega)]; exact f27_125
  have f28_126 : M28 126 = .inl (cx_c G 0, 8, .inl (fun _ => 0)) := by rw [eM28, up_ne (by omega)]; exact f27_126
  have f28_127 : M28 127 = .inl (cx_c G 0, 8, .inl (fun _ => 0)) := by rw [eM28, up_ne (by omega)]; exact f27_127
  have f28_128 : M28 128 = .inl (cx_c G 0, 7, .inl (fun _ => 0)) := by rw [eM28, up_ne (by omega)]; exact f27_128
  have f28_129 : M28 129 = .inl (cx_c G 0, 7, .inl (fun _ => 0)) := by rw [eM28, up_ne (by omega)]; exact f27_129
  have f28_130 : M28 130 = .inl (cx_c G 0, 7, .inl (fun _ => 0)) := by rw [eM28, up_ne (by omega)]; exact f27_130
  have f28_131 : M28 131 = .inl (cx_c G 0, 7, .inl (fun _ => 0)) := by rw [eM28, up_ne (by omega)]; exact f27_131
  have f28_132 : M28 132 = .inl (cx_c G 0, 8, .inl (fun _ => 0)) := by rw [eM28, up_ne (by omega)]; exact f27_132
  have f28_133 : M28 133 = .inl (cx_c G 0, 8, .inl (fun _ => 0)) := by rw [eM28, up_ne (by omega)]; exact f27_133
  have f28_134 : M28 134 = .inl (cx_c G 0, 7, .inl (fun _ => 0)) := by rw [eM28, up_ne (by omega)]; exact f27_134
  have f28_135 : M28 135 = .inl (cx_c G 0, 56, .inl (fun _ => 0)) := by rw [eM28, up_ne (by omega)]; exact f27_135
  have f28_122 : M28 122 = .inr (9, [.int 0, .ref (cx_b G + 123), .ref (cx_b G + 124), .int 0, .int 0, .ref (cx_b G + 125), .int 0, .ref (cx_b G + 126), .ref (cx_b G + 127), .int 0, .ref (cx_b G + 128), .ref (cx_b G + 129), .ref (cx_b G + 130), .ref (cx_b G + 131), .int 0, .int 0, .int 60, .int 0, .int 0, .int 0, .int 0, .int 0, .int 0, .int 0, .int 0, .int 0, .int 0, .int 0, .long 0, .int 0, .int 0, .int 0, .int 0, .int 0, .int 0, .int 0, .int 0, .ref (cx_b G + 132), .ref (cx_b G + 133), .int 0, .int 0, .ref (cx_b G + 134), .ref (cx_b G + 135), .null, .null, .int 0, .int 0, .int 0, .int 0, .int 0, .null, .null, .int 0, .int 0, .int 0, .int 0, .int 0, .null, .null, .null, .null]) := by rw [eM28, up_ne (by omega)]; exact f27_122
  have f28_136 : M28 136 = .inl (cx_c G 0, 64, .inl (fun _ => 0)) := by rw [eM28]; exact up_at rfl
  have S := S.to (M' := M28) (fun j hj => by rw [eM28, up_ne (by omega)])
  refine sg_newi (N := 64) X S f28_136 (by decide) rfl (Nat.le_of_ble_eq_true rfl) (Nat.le_of_ble_eq_true rfl) (Nat.le_of_ble_eq_true rfl) ac_i dX9_init_119 (fun H S => ?_)
  refine sg_putF X hin2 S (by omega) f28_122 (show vwCl[9]? = some (RX9, TX9, 61) from rfl) in_X9 tyX9_ok nmX9 43 (by decide) rfl lk_X9_56 rfl rfl rfl (Nat.le_of_ble_eq_true rfl) dX9_init_121 (fun H locs S => ?_)
  obtain ⟨M29, eM29⟩ : ∃ z, z = va_up M28 122 (.inr (9, [.int 0, .ref (cx_b G + 123), .ref (cx_b G + 124), .int 0, .int 0, .ref (cx_b G + 125), .int 0, .ref (cx_b G + 126), .ref (cx_b G + 127), .int 0, .ref (cx_b G + 128), .ref (cx_b G + 129), .ref (cx_b G + 130), .ref (cx_b G + 131), .int 0, .int 0, .int 60, .int 0, .int 0, .int 0, .int 0, .int 0, .int 0, .int 0, .int 0, .int 0, .int 0, .int 0, .long 0, .int 0, .int 0, .int 0, .int 0, .int 0, .int 0, .int 0, .int 0, .ref (cx_b G + 132), .ref (cx_b G + 133), .int 0, .int 0, .ref (cx_b G + 134), .ref (cx_b G + 135), .ref (cx_b G + 136), .null, .int 0, .int 0, .int 0, .int 0, .int 0, .null, .null, .int 0, .int 0, .int 0, .int 0, .int 0, .null, .null, .null, .null])) := ⟨_, rfl⟩
  have f29_123 : M29 123 = .inl (cx_c G 0, 960, .inl (fun _ => 0)) := by rw [eM29, up_ne (by omega)]; exact f28_123
  have f29_124 : M29 124 = .inl (cx_c G 0, 6, .inl (fun _ => 0)) := by rw [eM29, up_ne (by omega)]; exact f28_124
  have f29_125 : M29 125 = .inl (cx_c G 0, 160, .inl (fun _ => 0)) := by rw [eM29, up_ne (by omega)]; exact f28_125
  have f29_126 : M29 126 = .inl (cx_c G 0, 8, .inl (fun _ => 0)) := by rw [eM29, up_ne (by omega)]; exact f28_126
  have f29_127 : M29 127 = .inl (cx_c G 0, 8, .inl (fun _ => 0)) := by rw [eM29, up_ne (by omega)]; exact f28_127
  have f29_128 : M29 128 = .inl (cx_c G 0, 7, .inl (fun _ => 0)) := by rw [eM29, up_ne (by omega)]; exact f28_128
  have f29_129 : M29 129 = .inl (cx_c G 0, 7, .inl (fun _ => 0)) := by rw [eM29, up_ne (by omega)]; exact f28_129
  have f29_130 : M29 130 = .inl (cx_c G 0, 7, .inl (fun _ => 0)) := by rw [eM29, up_ne (by omega)]; exact f28_130
  have f29_131 : M29 131 = .inl (cx_c G 0, 7, .inl (fun _ => 0)) := by rw [eM29, up_ne (by omega)]; exact f28_131
  have f29_132 : M29 132 = .inl (cx_c G 0, 8, .inl (fun _ => 0)) := by rw [eM29, up_ne (by omega)]; exact f28_132
  have f29_133 : M29 133 = .inl (cx_c G 0, 8, .inl (fun _ => 0)) := by rw [eM29, up_ne (by omega)]; exact f28_133
  have f29_134 : M29 134 = .inl (cx_c G 0, 7, .inl (fun _ => 0)) := by rw [eM29, up_ne (by omega)]; exact f28_134
  have f29_135 : M29 135 = .inl (cx_c G 0, 56, .inl (fun _ => 0)) := by rw [eM29, up_ne (by omega)]; exact f28_135
  have f29_136 : M29 136 = .inl (cx_c G 0, 64, .inl (fun _ => 0)) := by rw [eM29, up_ne (by omega)]; exact f28_136
  have f29_122 : M29 122 = .inr (9, [.int 0, .ref (cx_b G + 123), .ref (cx_b G + 124), .int 0, .int 0, .ref (cx_b G + 125), .int 0, .ref (cx_b G + 126), .ref (cx_b G + 127), .int 0, .ref (cx_b G + 128), .ref (cx_b G + 129), .ref (cx_b G + 130), .ref (cx_b G + 131), .int 0, .int 0, .int 60, .int 0, .int 0, .int 0, .int 0, .int 0, .int 0, .int 0, .int 0, .int 0, .int 0, .int 0, .long 0, .int 0, .int 0, .int 0, .int 0, .int 0, .int 0, .int 0, .int 0, .ref (cx_b G + 132), .ref (cx_b G + 133), .int 0, .int 0, .ref (cx_b G + 134), .ref (cx_b G + 135), .ref (cx_b G + 136), .null, .int 0, .int 0, .int 0, .int 0, .int 0, .null, .null, .int 0, .int 0, .int 0, .int 0, .int 0, .null, .null, .null, .null]) := by rw [eM29]; exact up_at rfl
  have S : sg_ok G 123 (137) M29 s H locs (0 + 1 + 1 + 1 + 1 + 1 + 1 + 1 + 1 + 1 + 1 + 1 + 1 + 1 + 1) := by rw [eM29]; exact S
  refine lv_aload_n X.1.1 X.1.2.1 dX9_init_124 rfl (lv_at hl 0 rfl) ?_
  refine lv_bipush (v := 64) X.1.1 X.1.2.1 dX9_init_125 (by decide) ?_
  obtain ⟨M30, eM30⟩ : ∃ z, z = va_up M29 137 (.inl (cx_c G 0, 64, .inl (fun _ => 0))) := ⟨_, rfl⟩
  have f30_123 : M30 123 = .inl (cx_c G 0, 960, .inl (fun _ => 0)) := by rw [eM30, up_ne (by omega)]; exact f29_123
  have f30_124 : M30 124 = .inl (cx_c G 0, 6, .inl (fun _ => 0)) := by rw [eM30, up_ne (by omega)]; exact f29_124
  have f30_125 : M30 125 = .inl (cx_c G 0, 160, .inl (fun _ => 0)) := by rw [eM30, up_ne (by omega)]; exact f29_125
  have f30_126 : M30 126 = .inl (cx_c G 0, 8, .inl (fun _ => 0)) := by rw [eM30, up_ne (by omega)]; exact f29_126
  have f30_127 : M30 127 = .inl (cx_c G 0, 8, .inl (fun _ => 0)) := by rw [eM30, up_ne (by omega)]; exact f29_127
  have f30_128 : M30 128 = .inl (cx_c G 0, 7, .inl (fun _ => 0)) := by rw [eM30, up_ne (by omega)]; exact f29_128
  have f30_129 : M30 129 = .inl (cx_c G 0, 7, .inl (fun _ => 0)) := by rw [eM30, up_ne (by omega)]; exact f29_129
  have f30_130 : M30 130 = .inl (cx_c G 0, 7, .inl (fun _ => 0)) := by rw [eM30, up_ne (by omega)]; exact f29_130
  have f30_131 : M30 131 = .inl (cx_c G 0, 7, .inl (fun _ => 0)) := by rw [eM30, up_ne (by omega)]; exact f29_131
  have f30_132 : M30 132 = .inl (cx_c G 0, 8, .inl (fun _ => 0)) := by rw [eM30, up_ne (by omega)]; exact f29_132
  have f30_133 : M30 133 = .inl (cx_c G 0, 8, .inl (fun _ => 0)) := by rw [eM30, up_ne (by omega)]; exact f29_133
  have f30_134 : M30 134 = .inl (cx_c G 0, 7, .inl (fun _ => 0)) := by rw [eM30, up_ne (by omega)]; exact f29_134
  have f30_135 : M30 135 = .inl (cx_c G 0, 56, .inl (fun _ => 0)) := by rw [eM30, up_ne (by omega)]; exact f29_135
  have f30_136 : M30 136 = .inl (cx_c G 0, 64, .inl (fun _ => 0)) := by rw [eM30, up_ne (by omega)]; exact f29_136
  have f30_122 : M30 122 = .inr (9, [.int 0, .ref (cx_b G + 123), .ref (cx_b G + 124), .int 0, .int 0, .ref (cx_b G + 125), .int 0, .ref (cx_b G + 126), .ref (cx_b G + 127), .int 0, .ref (cx_b G + 128), .ref (cx_b G + 129), .ref (cx_b G + 130), .ref (cx_b G + 131), .int 0, .int 0, .int 60, .int 0, .int 0, .int 0, .int 0, .int 0, .int 0, .int 0, .int 0, .int 0, .int 0, .int 0, .long 0, .int 0, .int 0, .int 0, .int 0, .int 0, .int 0, .int 0, .int 0, .ref (cx_b G + 132), .ref (cx_b G + 133), .int 0, .int 0, .ref (cx_b G + 134), .ref (cx_b G + 135), .ref (cx_b G + 136), .null, .int 0, .int 0, .int 0, .int 0, .int 0, .null, .null, .int 0, .int 0, .int 0, .int 0, .int 0, .null, .null, .null, .null]) := by rw [eM30, up_ne (by omega)]; exact f29_122
  have f30_137 : M30 137 = .inl (cx_c G 0, 64, .inl (fun _ => 0)) := by rw [eM30]; exact up_at rfl
  have S := S.to (M' := M30) (fun j hj => by rw [eM30, up_ne (by omega)])
  refine sg_newi (N := 64) X S f30_137 (by decide) rfl (Nat.le_of_ble_eq_true rfl) (Nat.le_of_ble_eq_true rfl) (Nat.le_of_ble_eq_true rfl) ac_i dX9_init_127 (fun H S => ?_)
  refine sg_putF X hin2 S (by omega) f30_122 (show vwCl[9]? = some (RX9, TX9, 61) from rfl) in_X9 tyX9_ok nmX9 44 (by decide) rfl lk_X9_59 rfl rfl rfl (Nat.le_of_ble_eq_true rfl) dX9_init_129 (fun H locs S => ?_)
  obtain ⟨M31, eM31⟩ : ∃ z, z = va_up M30 122 (.inr (9, [.int 0, .ref (cx_b G + 123), .ref (cx_b G + 124), .int 0, .int 0, .ref (cx_b G + 125), .int 0, .ref (cx_b G + 126), .ref (cx_b G + 127), .int 0, .ref (cx_b G + 128), .ref (cx_b G + 129), .ref (cx_b G + 130), .ref (cx_b G + 131), .int 0, .int 0, .int 60, .int 0, .int 0, .int 0, .int 0, .int 0, .int 0, .int 0, .int 0, .int 0, .int 0, .int 0, .long 0, .int 0, .int 0, .int 0, .int 0, .int 0, .int 0, .int 0, .int 0, .ref (cx_b G + 132), .ref (cx_b G + 133), .int 0, .int 0, .ref (cx_b G + 134), .ref (cx_b G + 135), .ref (cx_b G + 136), .ref (cx_b G + 137), .int 0, .int 0, .int 0, .int 0, .int 0, .null, .null, .int 0, .int 0, .int 0, .int 0, .int 0, .null, .null, .null, .null])) := ⟨_, rfl⟩
  have f31_123 : M31 123 = .inl (cx_c G 0, 960, .inl (fun _ => 0)) := by rw [eM31, up_ne (by omega)]; exact f30_123
  have f31_124 : M31 124 = .inl (cx_c G 0, 6, .inl (fun _ => 0)) := by rw [eM31, up_ne (by omega)]; exact f30_124
  have f31_125 : M31 125 = .inl (cx_c G 0, 160, .inl (fun _ => 0)) := by rw [eM31, up_ne (by omega)]; exact f30_125
  have f31_126 : M31 126 = .inl (cx_c G 0, 8, .inl (fun _ => 0)) := by rw [eM31, up_ne (by omega)]; exact f30_126
  have f31_127 : M31 127 = .inl (cx_c G 0, 8, .inl (fun _ => 0)) := by rw [eM31, up_ne (by omega)]; exact f30_127
  have f31_128 : M31 128 = .inl (cx_c G 0, 7, .inl (fun _ => 0)) := by rw [eM31, up_ne (by omega)]; exact f30_128
  have f31_129 : M31 129 = .inl (cx_c G 0, 7, .inl (fun _ => 0)) := by rw [eM31, up_ne (by omega)]; exact f30_129
  have f31_130 : M31 130 = .inl (cx_c G 0, 7, .inl (fun _ => 0)) := by rw [eM31, up_ne (by omega)]; exact f30_130
  have f31_131 : M31 131 = .inl (cx_c G 0, 7, .inl (fun _ => 0)) := by rw [eM31, up_ne (by omega)]; exact f30_131
  have f31_132 : M31 132 = .inl (cx_c G 0, 8, .inl (fun _ => 0)) := by rw [eM31, up_ne (by omega)]; exact f30_132
  have f31_133 : M31 133 = .inl (cx_c G 0, 8, .inl (fun _ => 0)) := by rw [eM31, up_ne (by omega)]; exact f30_133
  have f31_134 : M31 134 = .inl (cx_c G 0, 7, .inl (fun _ => 0)) := by rw [eM31, up_ne (by omega)]; exact f30_134
  have f31_135 : M31 135 = .inl (cx_c G 0, 56, .inl (fun _ => 0)) := by rw [eM31, up_ne (by omega)]; exact f30_135
  have f31_136 : M31 136 = .inl (cx_c G 0, 64, .inl (fun _ => 0)) := by rw [eM31, up_ne (by omega)]; exact f30_136
  have f31_137 : M31 137 = .inl (cx_c G 0, 64, .inl (fun _ => 0)) := by rw [eM31, up_ne (by omega)]; exact f30_137
  have f31_122 : M31 122 = .inr (9, [.int 0, .ref (cx_b G + 123), .ref (cx_b G + 124), .int 0, .int 0, .ref (cx_b G + 125), .int 0, .ref (cx_b G + 126), .ref (cx_b G + 127), .int 0, .ref (cx_b G + 128), .ref (cx_b G + 129), .ref (cx_b G + 130), .ref (cx_b G + 131), .int 0, .int 0, .int 60, .int 0, .int 0, .int 0, .int 0, .int 0, .int 0, .int 0, .int 0, .int 0, .int 0, .int 0, .long 0, .int 0, .int 0, .int 0, .int 0, .int 0, .int 0, .int 0, .int 0, .ref (cx_b G + 132), .ref (cx_b G + 133), .int 0, .int 0, .ref (cx_b G + 134), .ref (cx_b G + 135), .ref (cx_b G + 136), .ref (cx_b G + 137), .int 0, .int 0, .int 0, .int 0, .int 0, .null, .null, .int 0, .int 0, .int 0, .int 0, .int 0, .null, .null, .null, .null]) := by rw [eM31]; exact up_at rfl
  have S : sg_ok G 123 (138) M31 s H locs (0 + 1 + 1 + 1 + 1 + 1 + 1 + 1 + 1 + 1 + 1 + 1 + 1 + 1 + 1 + 1) := by rw [eM31]; exact S
  refine lv_aload_n X.1.1 X.1.2.1 dX9_init_132 rfl (lv_at hl 0 rfl) ?_
  refine lv_bipush (v := 16) X.1.1 X.1.2.1 dX9_init_133 (by decide) ?_
  obtain ⟨M32, eM32⟩ : ∃ z, z = va_up M31 138 (.inl (cx_c G 0, 16, .inl (fun _ => 0))) := ⟨_, rfl⟩
  have f32_123 : M32 123 = .inl (cx_c G 0, 960, .inl (fun _ => 0)) := by rw [eM32, up_ne (by omega)]; exact f31_123
  have f32_124 : M32 124 = .inl (cx_c G 0, 6, .inl (fun _ => 0)) := by rw [eM32, up_ne (by omega)]; exact f31_124
  have f32_125 : M32 125 = .inl (cx_c G 0, 160, .inl (fun _ => 0)) := by rw [eM32, up_ne (by omega)]; exact f31_125
  have f32_126 : M32 126 = .inl (cx_c G 0, 8, .inl (fun _ => 0)) := by rw [eM32, up_ne (by omega)]; exact f31_126
  have f32_127 : M32 127 = .inl (cx_c G 0, 8, .inl (fun _ => 0)) := by rw [eM32, up_ne (by omega)]; exact f31_127
  have f32_128 : M32 128 = .inl (cx_c G 0, 7, .inl (fun _ => 0)) := by rw [eM32, up_ne (by omega)]; exact f31_128
  have f32_129 : M32 129 = .inl (cx_c G 0, 7, .inl (fun _ => 0)) := by rw [eM32, up_ne (by omega)]; exact f31_129
  have f32_130 : M32 130 = .inl (cx_c G 0, 7, .inl (fun _ => 0)) := by rw [eM32, up_ne (by omega)]; exact f31_130
  have f32_131 : M32 131 = .inl (cx_c G 0, 7, .inl (fun _ => 0)) := by rw [eM32, up_ne (by omega)]; exact f31_131
  have f32_132 : M32 132 = .inl (cx_c G 0, 8, .inl (fun _ => 0)) := by rw [eM32, up_ne (by omega)]; exact f31_132
  have f32_133 : M32 133 = .inl (cx_c G 0, 8, .inl (fun _ => 0)) := by rw [eM32, up_ne (by omega)]; exact f31_133
  have f32_134 : M32 134 = .inl (cx_c G 0, 7, .inl (fun _ => 0)) := by rw [eM32, up_ne (by omega)]; exact f31_134
  have f32_135 : M32 135 = .inl (cx_c G 0, 56, .inl (fun _ => 0)) := by rw [eM32, up_ne (by omega)]; exact f31_135
  have f32_136 : M32 136 = .inl (cx_c G 0, 64, .inl (fun _ => 0)) := by rw [eM32, up_ne (by omega)]; exact f31_136
  have f32_137 : M32 137 = .inl (cx_c G 0, 64, .inl (fun _ => 0)) := by rw [eM32, up_ne (by omega)]; exact f31_137
  have f32_122 : M32 122 = .inr (9, [.int 0, .ref (cx_b G + 123), .ref (cx_b G + 124), .int 0, .int 0, .ref (cx_b G + 125), .int 0, .ref (cx_b G + 126), .ref (cx_b G + 127), .int 0, .ref (cx_b G + 128), .ref (cx_b G + 129), .ref (cx_b G + 130), .ref (cx_b G + 131), .int 0, .int 0, .int 60, .int 0, .int 0, .int 0, .int 0, .int 0, .int 0, .int 0, .int 0, .int 0, .int 0, .int 0, .long 0, .int 0, .int 0, .int 0, .int 0, .int 0, .int 0, .int 0, .int 0, .ref (cx_b G + 132), .ref (cx_b G + 133), .int 0, .int 0, .ref (cx_b G + 134), .ref (cx_b G + 135), .ref (cx_b G + 136), .ref (cx_b G + 137), .int 0, .int 0, .int 0, .int 0, .int 0, .null, .null, .int 0, .int 0, .int 0, .int 0, .int 0, .null, .null, .null, .null]) := by rw [eM32, up_ne (by omega)]; exact f31_122
  have f32_138 : M32 138 = .inl (cx_c G 0, 16, .inl (fun _ => 0)) := by rw [eM32]; exact up_at rfl
  have S := S.to (M' := M32) (fun j hj => by rw [eM32, up_ne (by omega)])
  refine sg_newi (N := 16) X S f32_138 (by decide) rfl (Nat.le_of_ble_eq_true rfl) (Nat.le_of_ble_eq_true rfl) (Nat.le_of_ble_eq_true rfl) ac_i dX9_init_135 (fun H S => ?_)
  refine sg_putF X hin2 S (by omega) f32_122 (show vwCl[9]? = some (RX9, TX9, 61) from rfl) in_X9 tyX9_ok nmX9 50 (by decide) rfl lk_X9_62 rfl rfl rfl (Nat.le_of_ble_eq_true rfl) dX9_init_137 (fun H locs S => ?_)
  obtain ⟨M33, eM33⟩ : ∃ z, z = va_up M32 122 (.inr (9, [.int 0, .ref (cx_b G + 123), .ref (cx_b G + 124), .int 0, .int 0, .ref (cx_b G + 125), .int 0, .ref (cx_b G + 126), .ref (cx_b G + 127), .int 0, .ref (cx_b G + 128), .ref (cx_b G + 129), .ref (cx_b G + 130), .ref (cx_b G + 131), .int 0, .int 0, .int 60, .int 0, .int 0, .int 0, .int 0, .int 0, .int 0, .int 0, .int 0, .int 0, .int 0, .int 0, .long 0, .int 0, .int 0, .int 0, .int 0, .int 0, .int 0, .int 0, .int 0, .ref (cx_b G + 132), .ref (cx_b G + 133), .int 0, .int 0, .ref (cx_b G + 134), .ref (cx_b G + 135), .ref (cx_b G + 136), .ref (cx_b G + 137), .int 0, .int 0, .int 0, .int 0, .int 0, .ref (cx_b G + 138), .null, .int 0, .int 0, .int 0, .int 0, .int 0, .null, .null, .null, .null])) := ⟨_, rfl⟩
  have f33_123 : M33 123 = .inl (cx_c G 0, 960, .inl (fun _ => 0)) := by rw [eM33, up_ne (by omega)]; exact f32_123
  have f33_124 : M33 124 = .inl (cx_c G 0, 6, .inl (fun _ => 0)) := by rw [eM33, up_ne (by omega)]; exact f32_124
  have f33_125 : M33 125 = .inl (cx_c G 0, 160, .inl (fun _ => 0)) := by rw [eM33, up_ne (by omega)]; exact f32_125
  have f33_126 : M33 126 = .inl (cx_c G 0, 8, .inl (fun _ => 0)) := by rw [eM33, up_ne (by omega)]; exact f32_126
  have f33_127 : M33 127 = .inl (cx_c G 0, 8, .inl (fun _ => 0)) := by rw [eM33, up_ne (by omega)]; exact f32_127
  have f33_128 : M33 128 = .inl (cx_c G 0, 7, .inl (fun _ => 0)) := by rw [eM33, up_ne (by omega)]; exact f32_128
  have f33_129 : M33 129 = .inl (cx_c G 0, 7, .inl (fun _ => 0)) := by rw [eM33, up_ne (by omega)]; exact f32_129
  have f33_130 : M33 130 = .inl (cx_c G 0, 7, .inl (fun _ => 0)) := by rw [eM33, up_ne (by omega)]; exact f32_130
  have f33_131 : M33 131 = .inl (cx_c G 0, 7, .inl (fun _ => 0)) := by rw [eM33, up_ne (by omega)]; exact f32_131
  have f33_132 : M33 132 = .inl (cx_c G 0, 8, .inl (fun _ => 0)) := by rw [eM33, up_ne (by omega)]; exact f32_132
  have f33_133 : M33 133 = .inl (cx_c G 0, 8, .inl (fun _ => 0)) := by rw [eM33, up_ne (by omega)]; exact f32_133
  have f33_134 : M33 134 = .inl (cx_c G 0, 7, .inl (fun _ => 0)) := by rw [eM33, up_ne (by omega)]; exact f32_134
  have f33_135 : M33 135 = .inl (cx_c G 0, 56, .inl (fun _ => 0)) := by rw [eM33, up_ne (by omega)]; exact f32_135
  have f33_136 : M33 136 = .inl (cx_c G 0, 64, .inl (fun _ => 0)) := by rw [eM33, up_ne (by omega)]; exact f32_136
  have f33_137 : M33 137 = .inl (cx_c G 0, 64, .inl (fun _ => 0)) := by rw [eM33, up_ne (by omega)]; exact f32_137
  have f33_138 : M33 138 = .inl (cx_c G 0, 16, .inl (fun _ => 0)) := by rw [eM33, up_ne (by omega)]; exact f32_138
  have f33_122 : M33 122 = .inr (9, [.int 0, .ref (cx_b G + 123), .ref (cx_b G + 124), .int 0, .int 0, .ref (cx_b G + 125), .int 0, .ref (cx_b G + 126), .ref (cx_b G + 127), .int 0, .ref (cx_b G + 128), .ref (cx_b G + 129), .ref (cx_b G + 130), .ref (cx_b G + 131), .int 0, .int 0, .int 60, .int 0, .int 0, .int 0, .int 0, .int 0, .int 0, .int 0, .int 0, .int 0, .int 0, .int 0, .long 0, .int 0, .int 0, .int 0, .int 0, .int 0, .int 0, .int 0, .int 0, .ref (cx_b G + 132), .ref (cx_b G + 133), .int 0, .int 0, .ref (cx_b G + 134), .ref (cx_b G + 135), .ref (cx_b G + 136), .ref (cx_b G + 137), .int 0, .int 0, .int 0, .int 0, .int 0, .ref (cx_b G + 138), .null, .int 0, .int 0, .int 0, .int 0, .int 0, .null, .null, .null, .null]) := by rw [eM33]; exact up_at rfl
  have S : sg_ok G 123 (139) M33 s H locs (0 + 1 + 1 + 1 + 1 + 1 + 1 + 1 + 1 + 1 + 1 + 1 + 1 + 1 + 1 + 1 + 1) := by rw [eM33]; exact S
  refine lv_aload_n X.1.1 X.1.2.1 dX9_init_140 rfl (lv_at hl 0 rfl) ?_
  refine lv_bipush (v := 21) X.1.1 X.1.2.1 dX9_init_141 (by decide) ?_
  obtain ⟨M34, eM34⟩ : ∃ z, z = va_up M33 139 (.inl (cx_c G 0, 21, .inl (fun _ => 0))) := ⟨_, rfl⟩
  have f34_123 : M34 123 = .inl (cx_c G 0, 960, .inl (fun _ => 0)) := by rw [eM34, up_ne (by omega)]; exact f33_123
  have f34_124 : M34 124 = .inl (cx_c G 0, 6, .inl (fun _ => 0)) := by rw [eM34, up_ne (by omega)]; exact f33_124
  have f34_125 : M34 125 = .inl (cx_c G 0, 160, .inl (fun _ => 0)) := by rw [eM34, up_ne (by omega)]; exact f33_125
  have f34_126 : M34 126 = .inl (cx_c G 0, 8, .inl (fun _ => 0)) := by rw [eM34, up_ne (by omega)]; exact f33_126
  have f34_127 : M34 127 = .inl (cx_c G 0, 8, .inl (fun _ => 0)) := by rw [eM34, up_ne (by omega)]; exact f33_127
  have f34_128 : M34 128 = .inl (cx_c G 0, 7, .inl (fun _ => 0)) := by rw [eM34, up_ne (by omega)]; exact f33_128
  have f34_129 : M34 129 = .inl (cx_c G 0, 7, .inl (fun _ => 0)) := by rw [eM34, up_ne (by omega)]; exact f33_129
  have f34_130 : M34 130 = .inl (cx_c G 0, 7, .inl (fun _ => 0)) := by rw [eM34, up_ne (by omega)]; exact f33_130
  have f34_131 : M34 131 = .inl (cx_c G 0, 7, .inl (fun _ => 0)) := by rw [eM34, up_ne (by omega)]; exact f33_131
  have f34_132 : M34 132 = .inl (cx_c G 0, 8, .inl (fun _ => 0)) := by rw [eM34, up_ne (by omega)]; exact f33_132
  have f34_133 : M34 133 = .inl (cx_c G 0, 8, .inl (fun _ => 0)) := by rw [eM34, up_ne (by omega)]; exact f33_133
  have f34_134 : M34 134 = .inl (cx_c G 0, 7, .inl (fun _ => 0)) := by rw [eM34, up_ne (by omega)]; exact f33_134
  have f34_135 : M34 135 = .inl (cx_c G 0, 56, .inl (fun _ => 0)) := by rw [eM34, up_ne (by omega)]; exact f33_135
  have f34_136 : M34 136 = .inl (cx_c G 0, 64, .inl (fun _ => 0)) := by rw [eM34, up_ne (by omega)]; exact f33_136
  have f34_137 : M34 137 = .inl (cx_c G 0, 64, .inl (fun _ => 0)) := by rw [eM34, up_ne (by omega)]; exact f33_137
  have f34_138 : M34 138 = .inl (cx_c G 0, 16, .inl (fun _ => 0)) := by rw [eM34, up_ne (by omega)]; exact f33_138
  have f34_122 : M34 122 = .inr (9, [.int 0, .ref (cx_b G + 123), .ref (cx_b G + 124), .int 0, .int 0, .ref (cx_b G + 125), .int 0, .ref (cx_b G + 126), .ref (cx_b G + 127), .int 0, .ref (cx_b G + 128), .ref (cx_b G + 129), .ref (cx_b G + 130), .ref (cx_b G + 131), .int 0, .int 0, .int 60, .int 0, .int 0, .int 0, .int 0, .int 0, .int 0, .int 0, .int 0, .int 0, .int 0, .int 0, .long 0, .int 0, .int 0, .int 0, .int 0, .int 0, .int 0, .int 0, .int 0, .ref (cx_b G + 132), .ref (cx_b G + 133), .int 0, .int 0, .ref (cx_b G + 134), .ref (cx_b G + 135), .ref (cx_b G + 136), .ref (cx_b G + 137), .int 0, .int 0, .int 0, .int 0, .int 0, .ref (cx_b G + 138), .null, .int 0, .int 0, .int 0, .int 0, .int 0, .null, .null, .null, .null]) := by rw [eM34, up_ne (by omega)]; exact f33_122
  have f34_139 : M34 139 = .inl (cx_c G 0, 21, .inl (fun _ => 0)) := by rw [eM34]; exact up_at rfl
  have S := S.to (M' := M34) (fun j hj => by rw [eM34, up_ne (by omega)])
  refine sg_newi (N := 21) X S f34_139 (by decide) rfl (Nat.le_of_ble_eq_true rfl) (Nat.le_of_ble_eq_true rfl) (Nat.le_of_ble_eq_true rfl) ac_i dX9_init_143 (fun H S => ?_)
  refine sg_putF X hin2 S (by omega) f34_122 (show vwCl[9]? = some (RX9, TX9, 61) from rfl) in_X9 tyX9_ok nmX9 51 (by decide) rfl lk_X9_65 rfl rfl rfl (Nat.le_of_ble_eq_true rfl) dX9_init_145 (fun H locs S => ?_)
  obtain ⟨M35, eM35⟩ : ∃ z, z = va_up M34 122 (.inr (9, [.int 0, .ref (cx_b G + 123), .ref (cx_b G + 124), .int 0, .int 0, .ref (cx_b G + 125), .int 0, .ref (cx_b G + 126), .ref (cx_b G + 127), .int 0, .ref (cx_b G + 128), .ref (cx_b G + 129), .ref (cx_b G + 130), .ref (cx_b G + 131), .int 0, .int 0, .int 60, .int 0, .int 0, .int 0, .int 0, .int 0, .int 0, .int 0, .int 0, .int 0, .int 0, .int 0, .long 0, .int 0, .int 0, .int 0, .int 0, .int 0, .int 0, .int 0, .int 0, .ref (cx_b G + 132), .ref (cx_b G + 133), .int 0, .int 0, .ref (cx_b G + 134), .ref (cx_b G + 135), .ref (cx_b G + 136), .ref (cx_b G + 137), .int 0, .int 0, .int 0, .int 0, .int 0, .ref (cx_b G + 138), .ref (cx_b G + 139), .int 0, .int 0, .int 0, .int 0, .int 0, .null, .null, .null, .null])) := ⟨_, rfl⟩
  have f35_123 : M35 123 = .inl (cx_c G 0, 960, .inl (fun _ => 0)) := by rw [eM35, up_ne (by omega)]; exact f34_123
  have f35_124 : M35 124 = .inl (cx_c G 0, 6, .inl (fun _ => 0)) := by rw [eM35, up_ne (by omega)]; exact f34_124
  have f35_125 : M35 125 = .inl (cx_c G 0, 160, .inl (fun _ => 0)) := by rw [eM35, up_ne (by omega)]; exact f34_125
  have f35_126 : M35 126 = .inl (cx_c G 0, 8, .inl (fun _ => 0)) := by rw [eM35, up_ne (by omega)]; exact f34_126
  have f35_127 : M35 127 = .inl (cx_c G 0, 8, .inl (fun _ => 0)) := by rw [eM35, up_ne (by omega)]; exact f34_127
  have f35_128 : M35 128 = .inl (cx_c G 0, 7, .inl (fun _ => 0)) := by rw [eM35, up_ne (by omega)]; exact f34_128
  have f35_129 : M35 129 = .inl (cx_c G 0, 7, .inl (fun _ => 0)) := by rw [eM35, up_ne (by omega)]; exact f34_129
  have f35_130 : M35 130 = .inl (cx_c G 0, 7, .inl (fun _ => 0)) := by rw [eM35, up_ne (by omega)]; exact f34_130
  have f35_131 : M35 131 = .inl (cx_c G 0, 7, .inl (fun _ => 0)) := by rw [eM35, up_ne (by omega)]; exact f34_131
  have f35_132 : M35 132 = .inl (cx_c G 0, 8, .inl (fun _ => 0)) := by rw [eM35, up_ne (by omega)]; exact f34_132
  have f35_133 : M35 133 = .inl (cx_c G 0, 8, .inl (fun _ => 0)) := by rw [eM35, up_ne (by omega)]; exact f34_133
  have f35_134 : M35 134 = .inl (cx_c G 0, 7, .inl (fun _ => 0)) := by rw [eM35, up_ne (by omega)]; exact f34_134
  have f35_135 : M35 135 = .inl (cx_c G 0, 56, .inl (fun _ => 0)) := by rw [eM35, up_ne (by omega)]; exact f34_135
  have f35_136 : M35 136 = .inl (cx_c G 0, 64, .inl (fun _ => 0)) := by rw [eM35, up_ne (by omega)]; exact f34_136
  have f35_137 : M35 137 = .inl (cx_c G 0, 64, .inl (fun _ => 0)) := by rw [eM35, up_ne (by omega)]; exact f34_137
  have f35_138 : M35 138 = .inl (cx_c G 0, 16, .inl (fun _ => 0)) := by rw [eM35, up_ne (by omega)]; exact f34_138
  have f35_139 : M35 139 = .inl (cx_c G 0, 21, .inl (fun _ => 0)) := by rw [eM35, up_ne (by omega)]; exact f34_139
  have f35_122 : M35 122 = .inr (9, [.int 0, .ref (cx_b G + 123), .ref (cx_b G + 124), .int 0, .int 0, .ref (cx_b G + 125), .int 0, .ref (cx_b G + 126), .ref (cx_b G + 127), .int 0, .ref (cx_b G + 128), .ref (cx_b G + 129), .ref (cx_b G + 130), .ref (cx_b G + 131), .int 0, .int 0, .int 60, .int 0, .int 0, .int 0, .int 0, .int 0, .int 0, .int 0, .int 0, .int 0, .int 0, .int 0, .long 0, .int 0, .int 0, .int 0, .int 0, .int 0, .int 0, .int 0, .int 0, .ref (cx_b G + 132), .ref (cx_b G + 133), .int 0, .int 0, .ref (cx_b G + 134), .ref (cx_b G + 135), .ref (cx_b G + 136), .ref (cx_b G + 137), .int 0, .int 0, .int 0, .int 0, .int 0, .ref (cx_b G + 138), .ref (cx_b G + 139), .int 0, .int 0, .int 0, .int 0, .int 0, .null, .null, .null, .null]) := by rw [eM35]; exact up_at rfl
  have S : sg_ok G 123 (140) M35 s H locs (0 + 1 + 1 + 1 + 1 + 1 + 1 + 1 + 1 + 1 + 1 + 1 + 1 + 1 + 1 + 1 + 1 + 1) := by rw [eM35]; exact S
  refine lv_aload_n X.1.1 X.1.2.1 dX9_init_148 rfl (lv_at hl 0 rfl) ?_
  refine lv_iconst (v := -1) X.1.1 X.1.2.1 dX9_init_149 (by decide) ?_
  refine sg_put X S (by omega) f35_122 (show vwCl[9]? = some (RX9, TX9, 61) from rfl) in_X9 tyX9_ok nmX9 52 (by decide) lk_X9_68 rfl rfl rfl (Nat.le_of_ble_eq_true rfl) dX9_init_150 (fun H locs S => ?_)
  obtain ⟨M36, eM36⟩ : ∃ z, z = va_up M35 122 (.inr (9, [.int 0, .ref (cx_b G + 123), .ref (cx_b G + 124), .int 0, .int 0, .ref (cx_b G + 125), .int 0, .ref (cx_b G + 126), .ref (cx_b G + 127), .int 0, .ref (cx_b G + 128), .ref (cx_b G + 129), .ref (cx_b G + 130), .ref (cx_b G + 131), .int 0, .int 0, .int 60, .int 0, .int 0, .int 0, .int 0, .int 0, .int 0, .int 0, .int 0, .int 0, .int 0, .int 0, .long 0, .int 0, .int 0, .int 0, .int 0, .int 0, .int 0, .int 0, .int 0, .ref (cx_b G + 132), .ref (cx_b G + 133), .int 0, .int 0, .ref (cx_b G + 134), .ref (cx_b G + 135), .ref (cx_b G + 136), .ref (cx_b G + 137), .int 0, .int 0, .int 0, .int 0, .int 0, .ref (cx_b G + 138), .ref (cx_b G + 139), .int (-1), .int 0, .int 0, .int 0, .int 0, .null, .null, .null, .null])) := ⟨_, rfl⟩
  have f36_123 : M36 123 = .inl (cx_c G 0, 960, .inl (fun _ => 0)) := by rw [eM36, up_ne (by omega)]; exact f35_123
  have f36_124 : M36 124 = .inl (cx_c G 0, 6, .inl (fun _ => 0)) := by rw [eM36, up_ne (by omega)]; exact f35_124
  have f36_125 : M36 125 = .inl (cx_c G 0, 160, .inl (fun _ => 0)) := by rw [eM36, up_ne (by omega)]; exact f35_125
  have f36_126 : M36 126 = .inl (cx_c G 0, 8, .inl (fun _ => 0)) := by rw [eM36, up_ne (by omega)]; exact f35_126
  have f36_127 : M36 127 = .inl (cx_c G 0, 8, .inl (fun _ => 0)) := by rw [eM36, up_ne (by omega)]; exact f35_127
  have f36_128 : M36 128 = .inl (cx_c G 0, 7, .inl (fun _ => 0)) := by rw [eM36, up_ne (by omega)]; exact f35_128
  have f36_129 : M36 129 = .inl (cx_c G 0, 7, .inl (fun _ => 0)) := by rw [eM36, up_ne (by omega)]; exact f35_129
  have f36_130 : M36 130 = .inl (cx_c G 0, 7, .inl (fun _ => 0)) := by rw [eM36, up_ne (by omega)]; exact f35_130
  have f36_131 : M36 131 = .inl (cx_c G 0, 7, .inl (fun _ => 0)) := by rw [eM36, up_ne (by omega)]; exact f35_131
  have f36_132 : M36 132 = .inl (cx_c G 0, 8, .inl (fun _ => 0)) := by rw [eM36, up_ne (by omega)]; exact f35_132
  have f36_133 : M36 133 = .inl (cx_c G 0, 8, .inl (fun _ => 0)) := by rw [eM36, up_ne (by omega)]; exact f35_133
  have f36_134 : M36 134 = .inl (cx_c G 0, 7, .inl (fun _ => 0)) := by rw [eM36, up_ne (by omega)]; exact f35_134
  have f36_135 : M36 135 = .inl (cx_c G 0, 56, .inl (fun _ => 0)) := by rw [eM36, up_ne (by omega)]; exact f35_135
  have f36_136 : M36 136 = .inl (cx_c G 0, 64, .inl (fun _ => 0)) := by rw [eM36, up_ne (by omega)]; exact f35_136
  have f36_137 : M36 137 = .inl (cx_c G 0, 64, .inl (fun _ => 0)) := by rw [eM36, up_ne (by omega)]; exact f35_137
  have f36_138 : M36 138 = .inl (cx_c G 0, 16, .inl (fun _ => 0)) := by rw [eM36, up_ne (by omega)]; exact f35_138
  have f36_139 : M36 139 = .inl (cx_c G 0, 21, .inl (fun _ => 0)) := by rw [eM36, up_ne (by omega)]; exact f35_139
  have f36_122 : M36 122 = .inr (9, [.int 0, .ref (cx_b G + 123), .ref (cx_b G + 124), .int 0, .int 0, .ref (cx_b G + 125), .int 0, .ref (cx_b G + 126), .ref (cx_b G + 127), .int 0, .ref (cx_b G + 128), .ref (cx_b G + 129), .ref (cx_b G + 130), .ref (cx_b G + 131), .int 0, .int 0, .int 60, .int 0, .int 0, .int 0, .int 0, .int 0, .int 0, .int 0, .int 0, .int 0, .int 0, .int 0, .long 0, .int 0, .int 0, .int 0, .int 0, .int 0, .int 0, .int 0, .int 0, .ref (cx_b G + 132), .ref (cx_b G + 133), .int 0, .int 0, .ref (cx_b G + 134), .ref (cx_b G + 135), .ref (cx_b G + 136), .ref (cx_b G + 137), .int 0, .int 0, .int 0, .int 0, .int 0, .ref (cx_b G + 138), .ref (cx_b G + 139), .int (-1), .int 0, .int 0, .int 0, .int 0, .null, .null, .null, .null]) := by rw [eM36]; exact up_at rfl
  have S : sg_ok G 123 (140) M36 s H locs (0 + 1 + 1 + 1 + 1 + 1 + 1 + 1 + 1 + 1 + 1 + 1 + 1 + 1 + 1 + 1 + 1 + 1) := by rw [eM36]; exact S
  refine lv_aload_n X.1.1 X.1.2.1 dX9_init_153 rfl (lv_at hl 0 rfl) ?_
  refine lv_iconst (v := 4) X.1.1 X.1.2.1 dX9_init_154 (by decide) ?_
  obtain ⟨M37, eM37⟩ : ∃ z, z = va_up M36 140 (.inl (cx_c G 1, 4, .inl (fun _ => 0))) := ⟨_, rfl⟩
  have f37_123 : M37 123 = .inl (cx_c G 0, 960, .inl (fun _ => 0)) := by rw [eM37, up_ne (by omega)]; exact f36_123
  have f37_124 : M37 124 = .inl (cx_c G 0, 6, .inl (fun _ => 0)) := by rw [eM37, up_ne (by omega)]; exact f36_124
  have f37_125 : M37 125 = .inl (cx_c G 0, 160, .inl (fun _ => 0)) := by rw [eM37, up_ne (by omega)]; exact f36_125
  have f37_126 : M37 126 = .inl (cx_c G 0, 8, .inl (fun _ => 0)) := by rw [eM37, up_ne (by omega)]; exact f36_126
  have f37_127 : M37 127 = .inl (cx_c G 0, 8, .inl (fun _ => 0)) := by rw [eM37, up_ne (by omega)]; exact f36_127
  have f37_128 : M37 128 = .inl (cx_c G 0, 7, .inl (fun _ => 0)) := by rw [eM37, up_ne (by omega)]; exact f36_128
  have f37_129 : M37 129 = .inl (cx_c G 0, 7, .inl (fun _ => 0)) := by rw [eM37, up_ne (by omega)]; exact f36_129
  have f37_130 : M37 130 = .inl (cx_c G 0, 7, .inl (fun _ => 0)) := by rw [eM37, up_ne (by omega)]; exact f36_130
  have f37_131 : M37 131 = .inl (cx_c G 0, 7, .inl (fun _ => 0)) := by rw [eM37, up_ne (by omega)]; exact f36_131
  have f37_132 : M37 132 = .inl (cx_c G 0, 8, .inl (fun _ => 0)) := by rw [eM37, up_ne (by omega)]; exact f36_132
  have f37_133 : M37 133 = .inl (cx_c G 0, 8, .inl (fun _ => 0)) := by rw [eM37, up_ne (by omega)]; exact f36_133
  have f37_134 : M37 134 = .inl (cx_c G 0, 7, .inl (fun _ => 0)) := by rw [eM37, up_ne (by omega)]; exact f36_134
  have f37_135 : M37 135 = .inl (cx_c G 0, 56, .inl (fun _ => 0)) := by rw [eM37, up_ne (by omega)]; exact f36_135
  have f37_136 : M37 136 = .inl (cx_c G 0, 64, .inl (fun _ => 0)) := by rw [eM37, up_ne (by omega)]; exact f36_136
  have f37_137 : M37 137 = .inl (cx_c G 0, 64, .inl (fun _ => 0)) := by rw [eM37, up_ne (by omega)]; exact f36_137
  have f37_138 : M37 138 = .inl (cx_c G 0, 16, .inl (fun _ => 0)) := by rw [eM37, up_ne (by omega)]; exact f36_138
  have f37_139 : M37 139 = .inl (cx_c G 0, 21, .inl (fun _ => 0)) := by rw [eM37, up_ne (by omega)]; exact f36_139
  have f37_122 : M37 122 = .inr (9, [.int 0, .ref (cx_b G + 123), .ref (cx_b G + 124), .int 0, .int 0, .ref (cx_b G + 125), .int 0, .ref (cx_b G + 126), .ref (cx_b G + 127), .int 0, .ref (cx_b G + 128), .ref (cx_b G + 129), .ref (cx_b G + 130), .ref (cx_b G + 131), .int 0, .int 0, .int 60, .int 0, .int 0, .int 0, .int 0, .int 0, .int 0, .int 0, .int 0, .int 0, .int 0, .int 0, .long 0, .int 0, .int 0, .int 0, .int 0, .int 0, .int 0, .int 0, .int 0, .ref (cx_b G + 132), .ref (cx_b G + 133), .int 0, .int 0, .ref (cx_b G + 134), .ref (cx_b G + 135), .ref (cx_b G + 136), .ref (cx_b G + 137), .int 0, .int 0, .int 0, .int 0, .int 0, .ref (cx_b G + 138), .ref (cx_b G + 139), .int (-1), .int 0, .int 0, .int 0, .int 0, .null, .null, .null, .null]) := by rw [eM37, up_ne (by omega)]; exact f36_122
  have f37_140 : M37 140 = .inl (cx_c G 1, 4, .inl (fun _ => 0)) := by rw [eM37]; exact up_at rfl
  have S := S.to (M' := M37) (fun j hj => by rw [eM37, up_ne (by omega)])
  refine sg_newz (N := 4) X S f37_140 (by decide) rfl (Nat.le_of_ble_eq_true rfl) (Nat.le_of_ble_eq_true rfl) (Nat.le_of_ble_eq_true rfl) ac_z dX9_init_155 (fun H S => ?_)
  refine sg_putF X hin2 S (by omega) f37_122 (show vwCl[9]? = some (RX9, TX9, 61) from rfl) in_X9 tyX9_ok nmX9 57 (by decide) rfl lk_X9_71 rfl rfl rfl (Nat.le_of_ble_eq_true rfl) dX9_init_157 (fun H locs S => ?_)
  obtain ⟨M38, eM38⟩ : ∃ z, z = va_up M37 122 (.inr (9, [.int 0, .ref (cx_b G + 123), .ref (cx_b G + 124), .int 0, .int 0, .ref (cx_b G + 125), .int 0, .ref (cx_b G + 126), .ref (cx_b G + 127), .int 0, .ref (cx_b G + 128), .ref (cx_b G + 129), .ref (cx_b G + 130), .ref (cx_b G + 131), .int 0, .int 0, .int 60, .int 0, .int 0, .int 0, .int 0, .int 0, .int 0, .int 0, .int 0, .int 0, .int 0, .int 0, .long 0, .int 0, .int 0, .int 0, .int 0, .int 0, .int 0, .int 0, .int 0, .ref (cx_b G + 132), .ref (cx_b G + 133), .int 0, .int 0, .ref (cx_b G + 134), .ref (cx_b G + 135), .ref (cx_b G + 136), .ref (cx_b G + 137), .int 0, .int 0, .int 0, .int 0, .int 0, .ref (cx_b G + 138), .ref (cx_b G + 139), .int (-1), .int 0, .int 0, .int 0, .int 0, .ref (cx_b G + 140), .null, .null, .null])) := ⟨_, rfl⟩
  have f38_123 : M38 123 = .inl (cx_c G 0, 960, .inl (fun _ => 0)) := by rw [eM38, up_ne (by omega)]; exact f37_123
  have f38_124 : M38 124 = .inl (cx_c G 0, 6, .inl (fun _ => 0)) := by rw [eM38, up_ne (by omega)]; exact f37_124
  have f38_125 : M38 125 = .inl (cx_c G 0, 160, .inl (fun _ => 0)) := by rw [eM38, up_ne (by omega)]; exact f37_125
  have f38_126 : M38 126 = .inl (cx_c G 0, 8, .inl (fun _ => 0)) := by rw [eM38, up_ne (by omega)]; exact f37_126
  have f38_127 : M38 127 = .inl (cx_c G 0, 8, .inl (fun _ => 0)) := by rw [eM38, up_ne (by omega)]; exact f37_127
  have f38_128 : M38 128 = .inl (cx_c G 0, 7, .inl (fun _ => 0)) := by rw [eM38, up_ne (by omega)]; exact f37_128
  have f38_129 : M38 129 = .inl (cx_c G 0, 7, .inl (fun _ => 0)) := by rw [eM38, up_ne (by omega)]; exact f37_129
  have f38_130 : M38 130 = .inl (cx_c G 0, 7, .inl (fun _ => 0)) := by rw [eM38, up_ne (by omega)]; exact f37_130
  have f38_131 : M38 131 = .inl (cx_c G 0, 7, .inl (fun _ => 0)) := by rw [eM38, up_ne (by omega)]; exact f37_131
  have f38_132 : M38 132 = .inl (cx_c G 0, 8, .inl (fun _ => 0)) := by rw [eM38, up_ne (by omega)]; exact f37_132
  have f38_133 : M38 133 = .inl (cx_c G 0, 8, .inl (fun _ => 0)) := by rw [eM38, up_ne (by omega)]; exact f37_133
  have f38_134 : M38 134 = .inl (cx_c G 0, 7, .inl (fun _ => 0)) := by rw [eM38, up_ne (by omega)]; exact f37_134
  have f38_135 : M38 135 = .inl (cx_c G 0, 56, .inl (fun _ => 0)) := by rw [eM38, up_ne (by omega)]; exact f37_135
  have f38_136 : M38 136 = .inl (cx_c G 0, 64, .inl (fun _ => 0)) := by rw [eM38, up_ne (by omega)]; exact f37_136
  have f38_137 : M38 137 = .inl (cx_c G 0, 64, .inl (fun _ => 0)) := by rw [eM38, up_ne (by omega)]; exact f37_137
  have f38_138 : M38 138 = .inl (cx_c G 0, 16, .inl (fun _ => 0)) := by rw [eM38, up_ne (by omega)]; exact f37_138
  have f38_139 : M38 139 = .inl (cx_c G 0, 21, .inl (fun _ => 0)) := by rw [eM38, up_ne (by omega)]; exact f37_139
  have f38_140 : M38 140 = .inl (cx_c G 1, 4, .inl (fun _ => 0)) := by rw [eM38, up_ne (by omega)]; exact f37_140
  have f38_122 : M38 122 = .inr (9, [.int 0, .ref (cx_b G + 123), .ref (cx_b G + 124), .int 0, .int 0, .ref (cx_b G + 125), .int 0, .ref (cx_b G + 126), .ref (cx_b G + 127), .int 0, .ref (cx_b G + 128), .ref (cx_b G + 129), .ref (cx_b G + 130), .ref (cx_b G + 131), .int 0, .int 0, .int 60, .int 0, .int 0, .int 0, .int 0, .int 0, .int 0, .int 0, .int 0, .int 0, .int 0, .int 0, .long 0, .int 0, .int 0, .int 0, .int 0, .int 0, .int 0, .int 0, .int 0, .ref (cx_b G + 132), .ref (cx_b G + 133), .int 0, .int 0, .ref (cx_b G + 134), .ref (cx_b G + 135), .ref (cx_b G + 136), .ref (cx_b G + 137), .int 0, .int 0, .int 0, .int 0, .int 0, .ref (cx_b G + 138), .ref (cx_b G + 139), .int (-1), .int 0, .int 0, .int 0, .int 0, .ref (cx_b G + 140), .null, .null, .null]) := by rw [eM38]; exact up_at rfl
  have S : sg_ok G 123 (141) M38 s H locs (0 + 1 + 1 + 1 + 1 + 1 + 1 + 1 + 1 + 1 + 1 + 1 + 1 + 1 + 1 + 1 + 1 + 1 + 1) := by rw [eM38]; exact S
  refine lv_aload_n X.1.1 X.1.2.1 dX9_init_160 rfl (lv_at hl 0 rfl) ?_
  refine lv_iconst (v := 4) X.1.1 X.1.2.1 dX9_init_161 (by decide) ?_
  obtain ⟨M39, eM39⟩ : ∃ z, z = va_up M38 141 (.inl (cx_c G 0, 4, .inl (fun _ => 0))) := ⟨_, rfl⟩
  have f39_123 : M39 123 = .inl (cx_c G 0, 960, .inl (fun _ => 0)) := by rw [eM39, up_ne (by omega)]; exact f38_123
  have f39_124 : M39 124 = .inl (cx_c G 0, 6, .inl (fun _ => 0)) := by rw [eM39, up_ne (by omega)]; exact f38_124
  have f39_125 : M39 125 = .inl (cx_c G 0, 160, .inl (fun _ => 0)) := by rw [eM39, up_ne (by omega)]; exact f38_125
  have f39_126 : M39 126 = .inl (cx_c G 0, 8, .inl (fun _ => 0)) := by rw [eM39, up_ne (by omega)]; exact f38_126
  have f39_127 : M39 127 = .inl (cx_c G 0, 8, .inl (fun _ => 0)) := by rw [eM39, up_ne (by omega)]; exact f38_127
  have f39_128 : M39 128 = .inl (cx_c G 0, 7, .inl (fun _ => 0)) := by rw [eM39, up_ne (by omega)]; exact f38_128
  have f39_129 : M39 129 = .inl (cx_c G 0, 7, .inl (fun _ => 0)) := by rw [eM39, up_ne (by omega)]; exact f38_129
  have f39_130 : M39 130 = .inl (cx_c G 0, 7, .inl (fun _ => 0)) := by rw [eM39, up_ne (by omega)]; exact f38_130
  have f39_131 : M39 131 = .inl (cx_c G 0, 7, .inl (fun _ => 0)) := by rw [eM39, up_ne (by omega)]; exact f38_131
  have f39_132 : M39 132 = .inl (cx_c G 0, 8, .inl (fun _ => 0)) := by rw [eM39, up_ne (by omega)]; exact f38_132
  have f39_133 : M39 133 = .inl (cx_c G 0, 8, .inl (fun _ => 0)) := by rw [eM39, up_ne (by omega)]; exact f38_133
  have f39_134 : M39 134 = .inl (cx_c G 0, 7, .inl (fun _ => 0)) := by rw [eM39, up_ne (by omega)]; exact f38_134
  have f39_135 : M39 135 = .inl (cx_c G 0, 56, .inl (fun _ => 0)) := by rw [eM39, up_ne (by omega)]; exact f38_135
  have f39_136 : M39 136 = .inl (cx_c G 0, 64, .inl (fun _ => 0)) := by rw [eM39, up_ne (by omega)]; exact f38_136
  have f39_137 : M39 137 = .inl (cx_c G 0, 64, .inl (fun _ => 0)) := by rw [eM39, up_ne (by omega)]; exact f38_137
  have f39_138 : M39 138 = .inl (cx_c G 0, 16, .inl (fun _ => 0)) := by rw [eM39, up_ne (by omega)]; exact f38_138
  have f39_139 : M39 139 = .inl (cx_c G 0, 21, .inl (fun _ => 0)) := by rw [eM39, up_ne (by omega)]; exact f38_139
  have f39_140 : M39 140 = .inl (cx_c G 1, 4, .inl (fun _ => 0)) := by rw [eM39, up_ne (by omega)]; exact f38_140
  have f39_122 : M39 122 = .inr (9, [.int 0, .ref (cx_b G + 123), .ref (cx_b G + 124), .int 0, .int 0, .ref (cx_b G + 125), .int 0, .ref (cx_b G + 126), .ref (cx_b G + 127), .int 0, .ref (cx_b G + 128), .ref (cx_b G + 129), .ref (cx_b G + 130), .ref (cx_b G + 131), .int 0, .int 0, .int 60, .int 0, .int 0, .int 0, .int 0, .int 0, .int 0, .int 0, .int 0, .int 0, .int 0, .int 0, .long 0, .int 0, .int 0, .int 0, .int 0, .int 0, .int 0, .int 0, .int 0, .ref (cx_b G + 132), .ref (cx_b G + 133), .int 0, .int 0, .ref (cx_b G + 134), .ref (cx_b G + 135), .ref (cx_b G + 136), .ref (cx_b G + 137), .int 0, .int 0, .int 0, .int 0, .int 0, .ref (cx_b G + 138), .ref (cx_b G + 139), .int (-1), .int 0, .int 0, .int 0, .int 0, .ref (cx_b G + 140), .null, .null, .null]) := by rw [eM39, up_ne (by omega)]; exact f38_122
  have f39_141 : M39 141 = .inl (cx_c G 0, 4, .inl (fun _ => 0)) := by rw [eM39]; exact up_at rfl
  have S := S.to (M' := M39) (fun j hj => by rw [eM39, up_ne (by omega)])
  refine sg_newi (N := 4) X S f39_141 (by decide) rfl (Nat.le_of_ble_eq_true rfl) (Nat.le_of_ble_eq_true rfl) (Nat.le_of_ble_eq_true rfl) ac_i dX9_init_162 (fun H S => ?_)
  refine sg_putF X hin2 S (by omega) f39_122 (show vwCl[9]? = some (RX9, TX9, 61) from rfl) in_X9 tyX9_ok nmX9 58 (by decide) rfl lk_X9_75 rfl rfl rfl (Nat.le_of_ble_eq_true rfl) dX9_init_164 (fun H locs S => ?_)
  obtain ⟨M40, eM40⟩ : ∃ z, z = va_up M39 122 (.inr (9, [.int 0, .ref (cx_b G + 123), .ref (cx_b G + 124), .int 0, .int 0, .ref (cx_b G + 125), .int 0, .ref (cx_b G + 126), .ref (cx_b G + 127), .int 0, .ref (cx_b G + 128), .ref (cx_b G + 129), .ref (cx_b G + 130), .ref (cx_b G + 131), .int 0, .int 0, .int 60, .int 0, .int 0, .int 0, .int 0, .int 0, .int 0, .int 0, .int 0, .int 0, .int 0, .int 0, .long 0, .int 0, .int 0, .int 0, .int 0, .int 0, .int 0, .int 0, .int 0, .ref (cx_b G + 132), .ref (cx_b G + 133), .int 0, .int 0, .ref (cx_b G + 134), .ref (cx_b G + 135), .ref (cx_b G + 136), .ref (cx_b G + 137), .int 0, .int 0, .int 0, .int 0, .int 0, .ref (cx_b G + 138), .ref (cx_b G + 139), .int (-1), .int 0, .int 0, .int 0, .int 0, .ref (cx_b G + 140), .ref (cx_b G + 141), .null, .null])) := ⟨_, rfl⟩
  have f40_123 : M40 123 = .inl (cx_c G 0, 960, .inl (fun _ => 0)) := by rw [eM40, up_ne (by omega)]; exact f39_123
  have f40_124 : M40 124 = .inl (cx_c G 0, 6, .inl (fun _ => 0)) := by rw [eM40, up_ne (by omega)]; exact f39_124
  have f40_125 : M40 125 = .inl (cx_c G 0, 160, .inl (fun _ => 0)) := by rw [eM40, up_ne (by omega)]; exact f39_125
  have f40_126 : M40 126 = .inl (cx_c G 0, 8, .inl (fun _ => 0)) := by rw [eM40, up_ne (by omega)]; exact f39_126
  have f40_127 : M40 127 = .inl (cx_c G 0, 8, .inl (fun _ => 0)) := by rw [eM40, up_ne (by omega)]; exact f39_127
  have f40_128 : M40 128 = .inl (cx_c G 0, 7, .inl (fun _ => 0)) := by rw [eM40, up_ne (by omega)]; exact f39_128
  have f40_129 : M40 129 = .inl (cx_c G 0, 7, .inl (fun _ => 0)) := by rw [eM40, up_ne (by omega)]; exact f39_129
  have f40_130 : M40 130 = .inl (cx_c G 0, 7, .inl (fun _ => 0)) := by rw [eM40, up_ne (by omega)]; exact f39_130
  have f40_131 : M40 131 = .inl (cx_c G 0, 7, .inl (fun _ => 0)) := by rw [eM40, up_ne (by omega)]; exact f39_131
  have f40_132 : M40 132 = .inl (cx_c G 0, 8, .inl (fun _ => 0)) := by rw [eM40, up_ne (by omega)]; exact f39_132
  have f40_133 : M40 133 = .inl (cx_c G 0, 8, .inl (fun _ => 0)) := by rw [eM40, up_ne (by omega)]; exact f39_133
  have f40_134 : M40 134 = .inl (cx_c G 0, 7, .inl (fun _ => 0)) := by rw [eM40, up_ne (by omega)]; exact f39_134
  have f40_135 : M40 135 = .inl (cx_c G 0, 56, .inl (fun _ => 0)) := by rw [eM40, up_ne (by omega)]; exact f39_135
  have f40_136 : M40 136 = .inl (cx_c G 0, 64, .inl (fun _ => 0)) := by rw [eM40, up_ne (by omega)]; exact f39_136
  have f40_137 : M40 137 = .inl (cx_c G 0, 64, .inl (fun _ => 0)) := by rw [eM40, up_ne (by omega)]; exact f39_137
  have f40_138 : M40 138 = .inl (cx_c G 0, 16, .inl (fun _ => 0)) := by rw [eM40, up_ne (by omega)]; exact f39_138
  have f40_139 : M40 139 = .inl (cx_c G 0, 21, .inl (fun _ => 0)) := by rw [eM40, up_ne (by omega)]; exact f39_139
  have f40_140 : M40 140 = .inl (cx_c G 1, 4, .inl (fun _ => 0)) := by rw [eM40, up_ne (by omega)]; exact f39_140
  have f40_141 : M40 141 = .inl (cx_c G 0, 4, .inl (fun _ => 0)) := by rw [eM40, up_ne (by omega)]; exact f39_141
  have f40_122 : M40 122 = .inr (9, [.int 0, .ref (cx_b G + 123), .ref (cx_b G + 124), .int 0, .int 0, .ref (cx_b G + 125), .int 0, .ref (cx_b G + 126), .ref (cx_b G + 127), .int 0, .ref (cx_b G + 128), .ref (cx_b G + 129), .ref (cx_b G + 130), .ref (cx_b G + 131), .int 0, .int 0, .int 60, .int 0, .int 0, .int 0, .int 0, .int 0, .int 0, .int 0, .int 0, .int 0, .int 0, .int 0, .long 0, .int 0, .int 0, .int 0, .int 0, .int 0, .int 0, .int 0, .int 0, .ref (cx_b G + 132), .ref (cx_b G + 133), .int 0, .int 0, .ref (cx_b G + 134), .ref (cx_b G + 135), .ref (cx_b G + 136), .ref (cx_b G + 137), .int 0, .int 0, .int 0, .int 0, .int 0, .ref (cx_b G + 138), .ref (cx_b G + 139), .int (-1), .int 0, .int 0, .int 0, .int 0, .ref (cx_b G + 140), .ref (cx_b G + 141), .null, .null]) := by rw [eM40]; exact up_at rfl
  have S : sg_ok G 123 (142) M40 s H locs (0 + 1 + 1 + 1 + 1 + 1 + 1 + 1 + 1 + 1 + 1 + 1 + 1 + 1 + 1 + 1 + 1 + 1 + 1 + 1) := by rw [eM40]; exact S
  refine lv_aload_n X.1.1 X.1.2.1 dX9_init_167 rfl (lv_at hl 0 rfl) ?_
  refine lv_iconst (v := 4) X.1.1 X.1.2.1 dX9_init_168 (by decide) ?_
  obtain ⟨M41, eM41⟩ : ∃ z, z = va_up M40 142 (.inl (cx_c G 0, 4, .inl (fun _ => 0))) := ⟨_, rfl⟩
  have f41_123 : M41 123 = .inl (cx_c G 0, 960, .inl (fun _ => 0)) := by rw [eM41, up_ne (by omega)]; exact f40_123
  have f41_124 : M41 124 = .inl (cx_c G 0, 6, .inl (fun _ => 0)) := by rw [eM41, up_ne (by omega)]; exact f40_124
  have f41_125 : M41 125 = .inl (cx_c G 0, 160, .inl (fun _ => 0)) := by rw [eM41, up_ne (by omega)]; exact f40_125
  have f41_126 : M41 126 = .inl (cx_c G 0, 8, .inl (fun _ => 0)) := by rw [eM41, up_ne (by omega)]; exact f40_126
  have f41_127 : M41 127 = .inl (cx_c G 0, 8, .inl (fun _ => 0)) := by rw [eM41, up_ne (by omega)]; exact f40_127
  have f41_128 : M41 128 = .inl (cx_c G 0, 7, .inl (fun _ => 0)) := by rw [eM41, up_ne (by omega)]; exact f40_128
  have f41_129 : M41 129 = .inl (cx_c G 0, 7, .inl (fun _ => 0)) := by rw [eM41, up_ne (by omega)]; exact f40_129
  have f41_130 : M41 130 = .inl (cx_c G 0, 7, .inl (fun _ => 0)) := by rw [eM41, up_ne (by omega)]; exact f40_130
  have f41_131 : M41 131 = .inl (cx_c G 0, 7, .inl (fun _ => 0)) := by rw [eM41, up_ne (by omega)]; exact f40_131
  have f41_132 : M41 132 = .inl (cx_c G 0, 8, .inl (fun _ => 0)) := by rw [eM41, up_ne (by omega)]; exact f40_132
  have f41_133 : M41 133 = .inl (cx_c G 0, 8, .inl (fun _ => 0)) := by rw [eM41, up_ne (by omega)]; exact f40_133
  have f41_134 : M41 134 = .inl (cx_c G 0, 7, .inl (fun _ => 0)) := by rw [eM41, up_ne (by omega)]; exact f40_134
  have f41_135 : M41 135 = .inl (cx_c G 0, 56, .inl (fun _ => 0)) := by rw [eM41, up_ne (by omega)]; exact f40_135
  have f41_136 : M41 136 = .inl (cx_c G 0, 64, .inl (fun _ => 0)) := by rw [eM41, up_ne (by omega)]; exact f40_136
  have f41_137 : M41 137 = .inl (cx_c G 0, 64, .inl (fun _ => 0)) := by rw [eM41, up_ne (by omega)]; exact f40_137
  have f41_138 : M41 138 = .inl (cx_c G 0, 16, .inl (fun _ => 0)) := by rw [eM41, up_ne (by omega)]; exact f40_138
  have f41_139 : M41 139 = .inl (cx_c G 0, 21, .inl (fun _ => 0)) := by rw [eM41, up_ne (by omega)]; exact f40_139
  have f41_140 : M41 140 = .inl (cx_c G 1, 4, .inl (fun _ => 0)) := by rw [eM41, up_ne (by omega)]; exact f40_140
  have f41_141 : M41 141 = .inl (cx_c G 0, 4, .inl (fun _ => 0)) := by rw [eM41, up_ne (by omega)]; exact f40_141
  have f41_122 : M41 122 = .inr (9, [.int 0, .ref (cx_b G + 123), .ref (cx_b G + 124), .int 0, .int 0, .ref (cx_b G + 125), .int 0, .ref (cx_b G + 126), .ref (cx_b G + 127), .int 0, .ref (cx_b G + 128), .ref (cx_b G + 129), .ref (cx_b G + 130), .ref (cx_b G + 131), .int 0, .int 0, .int 60, .int 0, .int 0, .int 0, .int 0, .int 0, .int 0, .int 0, .int 0, .int 0, .int 0, .int 0, .long 0, .int 0, .int 0, .int 0, .int 0, .int 0, .int 0, .int 0, .int 0, .ref (cx_b G + 132), .ref (cx_b G + 133), .int 0, .int 0, .ref (cx_b G + 134), .ref (cx_b G + 135), .ref (cx_b G + 136), .ref (cx_b G + 137), .int 0, .int 0, .int 0, .int 0, .int 0, .ref (cx_b G + 138), .ref (cx_b G + 139), .int (-1), .int 0, .int 0, .int 0, .int 0, .ref (cx_b G + 140), .ref (cx_b G + 141), .null, .null]) := by rw [eM41, up_ne (by omega)]; exact f40_122
  have f41_142 : M41 142 = .inl (cx_c G 0, 4, .inl (fun _ => 0)) := by rw [eM41]; exact up_at rfl
  have S := S.to (M' := M41) (fun j hj => by rw [eM41, up_ne (by omega)])
  refine sg_newi (N := 4) X S f41_142 (by decide) rfl (Nat.le_of_ble_eq_true rfl) (Nat.le_of_ble_eq_true rfl) (Nat.le_of_ble_eq_true rfl) ac_i dX9_init_169 (fun H S => ?_)
  refine sg_putF X hin2 S (by omega) f41_122 (show vwCl[9]? = some (RX9, TX9, 61) from rfl) in_X9 tyX9_ok nmX9 59 (by decide) rfl lk_X9_78 rfl rfl rfl (Nat.le_of_ble_eq_true rfl) dX9_init_171 (fun H locs S => ?_)
  obtain ⟨M42, eM42⟩ : ∃ z, z = va_up M41 122 (.inr (9, [.int 0, .ref (cx_b G + 123), .ref (cx_b G + 124), .int 0, .int 0, .ref (cx_b G + 125), .int 0, .ref (cx_b G + 126), .ref (cx_b G + 127), .int 0, .ref (cx_b G + 128), .ref (cx_b G + 129), .ref (cx_b G + 130), .ref (cx_b G + 131), .int 0, .int 0, .int 60, .int 0, .int 0, .int 0, .int 0, .int 0, .int 0, .int 0, .int 0, .int 0, .int 0, .int 0, .long 0, .int 0, .int 0, .int 0, .int 0, .int 0, .int 0, .int 0, .int 0, .ref (cx_b G + 132), .ref (cx_b G + 133), .int 0, .int 0, .ref (cx_b G + 134), .ref (cx_b G + 135), .ref (cx_b G + 136), .ref (cx_b G + 137), .int 0, .int 0, .int 0, .int 0, .int 0, .ref (cx_b G + 138), .ref (cx_b G + 139), .int (-1), .int 0, .int 0, .int 0, .int 0, .ref (cx_b G + 140), .ref (cx_b G + 141), .ref (cx_b G + 142), .null])) := ⟨_, rfl⟩
  have f42_123 : M42 123 = .inl (cx_c G 0, 960, .inl (fun _ => 0)) := by rw [eM42, up_ne (by omega)]; exact f41_123
  have f42_124 : M42 124 = .inl (cx_c G 0, 6, .inl (fun _ => 0)) := by rw [eM42, up_ne (by omega)]; exact f41_124
  have f42_125 : M42 125 = .inl (cx_c G 0, 160, .inl (fun _ => 0)) := by rw [eM42, up_ne (by omega)]; exact f41_125
  have f42_126 : M42 126 = .inl (cx_c G 0, 8, .inl (fun _ => 0)) := by rw [eM42, up_ne (by omega)]; exact f41_126
  have f42_127 : M42 127 = .inl (cx_c G 0, 8, .inl (fun _ => 0)) := by rw [eM42, up_ne (by omega)]; exact f41_127
  have f42_128 : M42 128 = .inl (cx_c G 0, 7, .inl (fun _ => 0)) := by rw [eM42, up_ne (by omega)]; exact f41_128
  have f42_129 : M42 129 = .inl (cx_c G 0, 7, .inl (fun _ => 0)) := by rw [eM42, up_ne (by omega)]; exact f41_129
  have f42_130 : M42 130 = .inl (cx_c G 0, 7, .inl (fun _ => 0)) := by rw [eM42, up_ne (by omega)]; exact f41_130
  have f42_131 : M42 131 = .inl (cx_c G 0, 7, .inl (fun _ => 0)) := by rw [eM42, up_ne (by omega)]; exact f41_131
  have f42_132 : M42 132 = .inl (cx_c G 0, 8, .inl (fun _ => 0)) := by rw [eM42, up_ne (by omega)]; exact f41_132
  have f42_133 : M42 133 = .inl (cx_c G 0, 8, .inl (fun _ => 0)) := by rw [eM42, up_ne (by omega)]; exact f41_133
  have f42_134 : M42 134 = .inl (cx_c G 0, 7, .inl (fun _ => 0)) := by rw [eM42, up_ne (by omega)]; exact f41_134
  have f42_135 : M42 135 = .inl (cx_c G 0, 56, .inl (fun _ => 0)) := by rw [eM42, up_ne (by omega)]; exact f41_135
  have f42_136 : M42 136 = .inl (cx_c G 0, 64, .inl (fun _ => 0)) := by rw [eM42, up_ne (by omega)]; exact f41_136
  have f42_137 : M42 137 = .inl (cx_c G 0, 64, .inl (fun _ => 0)) := by rw [eM42, up_ne (by omega)]; exact f41_137
  have f42_138 : M42 138 = .inl (cx_c G 0, 16, .inl (fun _ => 0)) := by rw [eM42, up_ne (by omega)]; exact f41_138
  have f42_139 : M42 139 = .inl (cx_c G 0, 21, .inl (fun _ => 0)) := by rw [eM42, up_ne (by omega)]; exact f41_139
  have f42_140 : M42 140 = .inl (cx_c G 1, 4, .inl (fun _ => 0)) := by rw [eM42, up_ne (by omega)]; exact f41_140
  have f42_141 : M42 141 = .inl (cx_c G 0, 4, .inl (fun _ => 0)) := by rw [eM42, up_ne (by omega)]; exact f41_141
  have f42_142 : M42 142 = .inl (cx_c G 0, 4, .inl (fun _ => 0)) := by rw [eM42, up_ne (by omega)]; exact f41_142
  have f42_122 : M42 122 = .inr (9, [.int 0, .ref (cx_b G + 123), .ref (cx_b G + 124), .int 0, .int 0, .ref (cx_b G + 125), .int 0, .ref (cx_b G + 126), .ref (cx_b G + 127), .int 0, .ref (cx_b G + 128), .ref (cx_b G + 129), .ref (cx_b G + 130), .ref (cx_b G + 131), .int 0, .int 0, .int 60, .int 0, .int 0, .int 0, .int 0, .int 0, .int 0, .int 0, .int 0, .int 0, .int 0, .int 0, .long 0, .int 0, .int 0, .int 0, .int 0, .int 0, .int 0, .int 0, .int 0, .ref (cx_b G + 132), .ref (cx_b G + 133), .int 0, .int 0, .ref (cx_b G + 134), .ref (cx_b G + 135), .ref (cx_b G + 136), .ref (cx_b G + 137), .int 0, .int 0, .int 0, .int 0, .int 0, .ref (cx_b G + 138), .ref (cx_b G + 139), .int (-1), .int 0, .int 0, .int 0, .int 0, .ref (cx_b G + 140), .ref (cx_b G + 141), .ref (cx_b G + 142), .null]) := by rw [eM42]; exact up_at rfl
  have S : sg_ok G 123 (143) M42 s H locs (0 + 1 + 1 + 1 + 1 + 1 + 1 + 1 + 1 + 1 + 1 + 1 + 1 + 1 + 1 + 1 + 1 + 1 + 1 + 1 + 1) := by rw [eM42]; exact S
  refine lv_aload_n X.1.1 X.1.2.1 dX9_init_174 rfl (lv_at hl 0 rfl) ?_
  refine lv_sipush (v := 160) X.1.1 X.1.2.1 dX9_init_175 (by decide) ?_
  obtain ⟨M43, eM43⟩ : ∃ z, z = va_up M42 143 (.inl (cx_c G 0, 160, .inl (fun _ => 0))) := ⟨_, rfl⟩
  have f43_123 : M43 123 = .inl (cx_c G 0, 960, .inl (fun _ => 0)) := by rw [eM43, up_ne (by omega)]; exact f42_123
  have f43_124 : M43 124 = .inl (cx_c G 0, 6, .inl (fun _ => 0)) := by rw [eM43, up_ne (by omega)]; exact f42_124
  have f43_125 : M43 125 = .inl (cx_c G 0, 160, .inl (fun _ => 0)) := by rw [eM43, up_ne (by omega)]; exact f42_125
  have f43_126 : M43 126 = .inl (cx_c G 0, 8, .inl (fun _ => 0)) := by rw [eM43, up_ne (by omega)]; exact f42_126
  have f43_127 : M43 127 = .inl (cx_c G 0, 8, .inl (fun _ => 0)) := by rw [eM43, up_ne (by omega)]; exact f42_127
  have f43_128 : M43 128 = .inl (cx_c G 0, 7, .inl (fun _ => 0)) := by rw [eM43, up_ne (by omega)]; exact f42_128
  have f43_129 : M43 129 = .inl (cx_c G 0, 7, .inl (fun _ => 0)) := by rw [eM43, up_ne (by omega)]; exact f42_129
  have f43_130 : M43 130 = .inl (cx_c G 0, 7, .inl (fun _ => 0)) := by rw [eM43, up_ne (by omega)]; exact f42_130
  have f43_131 : M43 131 = .inl (cx_c G 0, 7, .inl (fun _ => 0)) := by rw [eM43, up_ne (by omega)]; exact f42_131
  have f43_132 : M43 132 = .inl (cx_c G 0, 8, .inl (fun _ => 0)) := by rw [eM43, up_ne (by omega)]; exact f42_132
  have f43_133 : M43 133 = .inl (cx_c G 0, 8, .inl (fun _ => 0)) := by rw [eM43, up_ne (by omega)]; exact f42_133
  have f43_134 : M43 134 = .inl (cx_c G 0, 7, .inl (fun _ => 0)) := by rw [eM43, up_ne (by omega)]; exact f42_134
  have f43_135 : M43 135 = .inl (cx_c G 0, 56, .inl (fun _ => 0)) := by rw [eM43, up_ne (by omega)]; exact f42_135
  have f43_136 : M43 136 = .inl (cx_c G 0, 64, .inl (fun _ => 0)) := by rw [eM43, up_ne (by omega)]; exact f42_136
  have f43_137 : M43 137 = .inl (cx_c G 0, 64, .inl (fun _ => 0)) := by rw [eM43, up_ne (by omega)]; exact f42_137
  have f43_138 : M43 138 = .inl (cx_c G 0, 16, .inl (fun _ => 0)) := by rw [eM43, up_ne (by omega)]; exact f42_138
  have f43_139 : M43 139 = .inl (cx_c G 0, 21, .inl (fun _ => 0)) := by rw [eM43, up_ne (by omega)]; exact f42_139
  have f43_140 : M43 140 = .inl (cx_c G 1, 4, .inl (fun _ => 0)) := by rw [eM43, up_ne (by omega)]; exact f42_140
  have f43_141 : M43 141 = .inl (cx_c G 0, 4, .inl (fun _ => 0)) := by rw [eM43, up_ne (by omega)]; exact f42_141
  have f43_142 : M43 142 = .inl (cx_c G 0, 4, .inl (fun _ => 0)) := by rw [eM43, up_ne (by omega)]; exact f42_142
  have f43_122 : M43 122 = .inr (9, [.int 0, .ref (cx_b G + 123), .ref (cx_b G + 124), .int 0, .int 0, .ref (cx_b G + 125), .int 0, .ref (cx_b G + 126), .ref (cx_b G + 127), .int 0, .ref (cx_b G + 128), .ref (cx_b G + 129), .ref (cx_b G + 130), .ref (cx_b G + 131), .int 0, .int 0, .int 60, .int 0, .int 0, .int 0, .int 0, .int 0, .int 0, .int 0, .int 0, .int 0, .int 0, .int 0, .long 0, .int 0, .int 0, .int 0, .int 0, .int 0, .int 0, .int 0, .int 0, .ref (cx_b G + 132), .ref (cx_b G + 133), .int 0, .int 0, .ref (cx_b G + 134), .ref (cx_b G + 135), .ref (cx_b G + 136), .ref (cx_b G + 137), .int 0, .int 0, .int 0, .int 0, .int 0, .ref (cx_b G + 138), .ref (cx_b G + 139), .int (-1), .int 0, .int 0, .int 0, .int 0, .ref (cx_b G + 140), .ref (cx_b G + 141), .ref (cx_b G + 142), .null]) := by rw [eM43, up_ne (by omega)]; exact f42_122
  have f43_143 : M43 143 = .inl (cx_c G 0, 160, .inl (fun _ => 0)) := by rw [eM43]; exact up_at rfl
  have S := S.to (M' := M43) (fun j hj => by rw [eM43, up_ne (by omega)])
  refine sg_newi (N := 160) X S f43_143 (by decide) rfl (Nat.le_of_ble_eq_true rfl) (Nat.le_of_ble_eq_true rfl) (Nat.le_of_ble_eq_true rfl) ac_i dX9_init_178 (fun H S => ?_)
  refine sg_putF X hin2 S (by omega) f43_122 (show vwCl[9]? = some (RX9, TX9, 61) from rfl) in_X9 tyX9_ok nmX9 60 (by decide) rfl lk_X9_81 rfl rfl rfl (Nat.le_of_ble_eq_true rfl) dX9_init_180 (fun H locs S => ?_)
  obtain ⟨M44, eM44⟩ : ∃ z, z = va_up M43 122 (.inr (9, [.int 0, .ref (cx_b G + 123), .ref (cx_b G + 124), .int 0, .int 0, .ref (cx_b G + 125), .int 0, .ref (cx_b G + 126), .ref (cx_b G + 127), .int 0, .ref (cx_b G + 128), .ref (cx_b G + 129), .ref (cx_b G + 130), .ref (cx_b G + 131), .int 0, .int 0, .int 60, .int 0, .int 0, .int 0, .int 0, .int 0, .int 0, .int 0, .int 0, .int 0, .int 0, .int 0, .long 0, .int 0, .int 0, .int 0, .int 0, .int 0, .int 0, .int 0, .int 0, .ref (cx_b G + 132), .ref (cx_b G + 133), .int 0, .int 0, .ref (cx_b G + 134), .ref (cx_b G + 135), .ref (cx_b G + 136), .ref (cx_b G + 137), .int 0, .int 0, .int 0, .int 0, .int 0, .ref (cx_b G + 138), .ref (cx_b G + 139), .int (-1), .int 0, .int 0, .int 0, .int 0, .ref (cx_b G + 140), .ref (cx_b G + 141), .ref (cx_b G + 142), .ref (cx_b G + 143)])) := ⟨_, rfl⟩
  have f44_123 : M44 123 = .inl (cx_c G 0, 960, .inl (fun _ => 0)) := by rw [eM44, up_ne (by omega)]; exact f43_123
  have f44_124 : M44 124 = .inl (cx_c G 0, 6, .inl (fun _ => 0)) := by rw [eM44, up_ne (by omega)]; exact f43_124
  have f44_125 : M44 125 = .inl (cx_c G 0, 160, .inl (fun _ => 0)) := by rw [eM44, up_ne (by omega)]; exact f43_125
  have f44_126 : M44 126 = .inl (cx_c G 0, 8, .inl (fun _ => 0)) := by rw [eM44, up_ne (by omega)]; exact f43_126
  have f44_127 : M44 127 = .inl (cx_c G 0, 8, .inl (fun _ => 0)) := by rw [eM44, up_ne (by omega)]; exact f43_127
  have f44_128 : M44 128 = .inl (cx_c G 0, 7, .inl (fun _ => 0)) := by rw [eM44, up_ne (by omega)]; exact f43_128
  have f44_129 : M44 129 = .inl (cx_c G 0, 7, .inl (fun _ => 0)) := by rw [eM44, up_ne (by omega)]; exact f43_129
  have f44_130 : M44 130 = .inl (cx_c G 0, 7, .inl (fun _ => 0)) := by rw [eM44, up_ne (by omega)]; exact f43_130
  have f44_131 : M44 131 = .inl (cx_c G 0, 7, .inl (fun _ => 0)) := by rw [eM44, up_ne (by omega)]; exact f43_131
  have f44_132 : M44 132 = .inl (cx_c G 0, 8, .inl (fun _ => 0)) := by rw [eM44, up_ne (by omega)]; exact f43_132
  have f44_133 : M44 133 = .inl (cx_c G 0, 8, .inl (fun _ => 0)) := by rw [eM44, up_ne (by omega)]; exact f43_133
  have f44_134 : M44 134 = .inl (cx_c G 0, 7, .inl (fun _ => 0)) := by rw [eM44, up_ne (by omega)]; exact f43_134
  have f44_135 : M44 135 = .inl (cx_c G 0, 56, .inl (fun _ => 0)) := by rw [eM44, up_ne (by omega)]; exact f43_135
  have f44_136 : M44 136 = .inl (cx_c G 0, 64, .inl (fun _ => 0)) := by rw [eM44, up_ne (by omega)]; exact f43_136
  have f44_137 : M44 137 = .inl (cx_c G 0, 64, .inl (fun _ => 0)) := by rw [eM44, up_ne (by omega)]; exact f43_137
  have f44_138 : M44 138 = .inl (cx_c G 0, 16, .inl (fun _ => 0)) := by rw [eM44, up_ne (by omega)]; exact f43_138
  have f44_139 : M44 139 = .inl (cx_c G 0, 21, .inl (fun _ => 0)) := by rw [eM44, up_ne (by omega)]; exact f43_139
  have f44_140 : M44 140 = .inl (cx_c G 1, 4, .inl (fun _ => 0)) := by rw [eM44, up_ne (by omega)]; exact f43_140
  have f44_141 : M44 141 = .inl (cx_c G 0, 4, .inl (fun _ => 0)) := by rw [eM44, up_ne (by omega)]; exact f43_141
  have f44_142 : M44 142 = .inl (cx_c G 0, 4, .inl (fun _ => 0)) := by rw [eM44, up_ne (by omega)]; exact f43_142
  have f44_143 : M44 143 = .inl (cx_c G 0, 160, .inl (fun _ => 0)) := by rw [eM44, up_ne (by omega)]; exact f43_143
  have f44_122 : M44 122 = .inr (9, [.int 0, .ref (cx_b G + 123), .ref (cx_b G + 124), .int 0, .int 0, .ref (cx_b G + 125), .int 0, .ref (cx_b G + 126), .ref (cx_b G + 127), .int 0, .ref (cx_b G + 128), .ref (cx_b G + 129), .ref (cx_b G + 130), .ref (cx_b G + 131), .int 0, .int 0, .int 60, .int 0, .int 0, .int 0, .int 0, .int 0, .int 0, .int 0, .int 0, .int 0, .int 0, .int 0, .long 0, .int 0, .int 0, .int 0, .int 0, .int 0, .int 0, .int 0, .int 0, .ref (cx_b G + 132), .ref (cx_b G + 133), .int 0, .int 0, .ref (cx_b G + 134), .ref (cx_b G + 135), .ref (cx_b G + 136), .ref (cx_b G + 137), .int 0, .int 0, .int 0, .int 0, .int 0, .ref (cx_b G + 138), .ref (cx_b G + 139), .int (-1), .int 0, .int 0, .int 0, .int 0, .ref (cx_b G + 140), .ref (cx_b G + 141), .ref (cx_b G + 142), .ref (cx_b G + 143)]) := by rw [eM44]; exact up_at rfl
  have S : sg_ok G 123 (144) M44 s H locs (0 + 1 + 1 + 1 + 1 + 1 + 1 + 1 + 1 + 1 + 1 + 1 + 1 + 1 + 1 + 1 + 1 + 1 + 1 + 1 + 1 + 1) := by rw [eM44]; exact S
  have S := S.to (M' := ly_cell G (mm_mx I jc_z)) (fun j hj => by
    rcases Nat.lt_or_ge j 122 with q1 | q1
    · have hz : ly_cell G (mm_mx I jc_z) j = ly_cell G (mm_mx I J0) j := jz_low q1
      rw [hz, eM44, up_ne (by omega), eM43, up_ne (by omega), eM42, up_ne (by omega), eM41, up_ne (by omega), eM40, up_ne (by omega), eM39, up_ne (by omega), eM38, up_ne (by omega), eM37, up_ne (by omega), eM36, up_ne (by omega), eM35, up_ne (by omega), eM34, up_ne (by omega), eM33, up_ne (by omega), eM32, up_ne (by omega), eM31, up_ne (by omega), eM30, up_ne (by omega), eM29, up_ne (by omega), eM28, up_ne (by omega), eM27, up_ne (by omega), eM26, up_ne (by omega), eM25, up_ne (by omega), eM24, up_ne (by omega), eM23, up_ne (by omega), eM22, up_ne (by omega), eM21, up_ne (by omega), eM20, up_ne (by omega), eM19, up_ne (by omega), eM18, up_ne (by omega), eM17, up_ne (by omega), eM16, up_ne (by omega), eM15, up_ne (by omega), eM14, up_ne (by omega), eM13, up_ne (by omega), eM12, up_ne (by omega), eM11, up_ne (by omega), eM10, up_ne (by omega), eM9, up_ne (by omega), eM8, up_ne (by omega), eM7, up_ne (by omega), eM6, up_ne (by omega), eM5, up_ne (by omega), eM4, up_ne (by omega), eM3, up_ne (by omega), eM2, up_ne (by omega), eM1, up_ne (by omega)]; exact hM0 j q1
    · rcases (show j = 122 ∨ j = 123 ∨ j = 124 ∨ j = 125 ∨ j = 126 ∨ j = 127 ∨ j = 128 ∨ j = 129 ∨ j = 130 ∨ j = 131 ∨ j = 132 ∨ j = 133 ∨ j = 134 ∨ j = 135 ∨ j = 136 ∨ j = 137 ∨ j = 138 ∨ j = 139 ∨ j = 140 ∨ j = 141 ∨ j = 142 ∨ j = 143 by omega) with q2 | q2 | q2 | q2 | q2 | q2 | q2 | q2 | q2 | q2 | q2 | q2 | q2 | q2 | q2 | q2 | q2 | q2 | q2 | q2 | q2 | q2
      · rw [q2, f44_122]; rfl
      · rw [q2, f44_123]; rfl
      · rw [q2, f44_124]; rfl
      · rw [q2, f44_125]; rfl
      · rw [q2, f44_126]; rfl
      · rw [q2, f44_127]; rfl
      · rw [q2, f44_128]; rfl
      · rw [q2, f44_129]; rfl
      · rw [q2, f44_130]; rfl
      · rw [q2, f44_131]; rfl
      · rw [q2, f44_132]; rfl
      · rw [q2, f44_133]; rfl
      · rw [q2, f44_134]; rfl
      · rw [q2, f44_135]; rfl
      · rw [q2, f44_136]; rfl
      · rw [q2, f44_137]; rfl
      · rw [q2, f44_138]; rfl
      · rw [q2, f44_139]; rfl
      · rw [q2, f44_140]; rfl
      · rw [q2, f44_141]; rfl
      · rw [q2, f44_142]; rfl
      · rw [q2, f44_143]; rfl)
  have hsz := S.2.1
  have hC := jc_s
  unfold jc_o at hC
  obtain ⟨z1, e1, hC⟩ := pz_bd_e hC
  refine lv_aload_n X.1.1 X.1.2.1 dX9_init_183 rfl (lv_at hl 0 rfl) ?_
  refine lv_iconst (v := 0) X.1.1 X.1.2.1 dX9_init_184 (by decide) ?_
  refine lv_bipush (v := 98) X.1.1 X.1.2.1 dX9_init_185 (by decide) ?_
  refine lv_bipush (v := 101) X.1.1 X.1.2.1 dX9_init_187 (by decide) ?_
  refine lv_bipush (v := 97) X.1.1 X.1.2.1 dX9_init_189 (by decide) ?_
  refine lv_bipush (v := 114) X.1.1 X.1.2.1 dX9_init_191 (by decide) ?_
  refine lv_bipush (v := 115) X.1.1 X.1.2.1 dX9_init_193 (by decide) ?_
  refine lv_bipush (v := 32) X.1.1 X.1.2.1 dX9_init_195 (by decide) ?_
  refine lv_bipush (v := 49) X.1.1 X.1.2.1 dX9_init_197 (by decide) ?_
  refine lv_bipush (v := 48) X.1.1 X.1.2.1 dX9_init_199 (by decide) ?_
  refine sg_lg S (fun L => ?_)
  refine lg_Vv (I1 := I) (J1 := z1) (As := [.int 0, .int 98, .int 101, .int 97, .int 114, .int 115, .int 32, .int 49, .int 48]) (rest := []) X L (by decide) ⟨Nat.le_of_ble_eq_true rfl, Nat.le_of_ble_eq_true rfl⟩ (c_X9_spell (by decide) e1) gd_X9_84 ⟨rfl, ny_X9_spell⟩ ⟨rfl, rfl⟩ ⟨Nat.le_of_ble_eq_true rfl, Nat.le_of_ble_eq_true rfl⟩ (lg_recvL (k := 9) (i := 0) X L (ly_ok_9 (by decide) (by decide)) rfl rfl) rfl rfl hl.1 (Nat.le_of_ble_eq_true rfl) dX9_init_201 (fun H locs L => ?_)
  have S := lg_sg (cells := 0 + 1 + 1 + 1 + 1 + 1 + 1 + 1 + 1 + 1 + 1 + 1 + 1 + 1 + 1 + 1 + 1 + 1 + 1 + 1 + 1 + 1) L hsz rfl
  obtain ⟨z2, e2, hC⟩ := pz_bd_e hC
  refine lv_aload_n X.1.1 X.1.2.1 dX9_init_204 rfl (lv_at hl 0 rfl) ?_
  refine lv_bipush (v := 8) X.1.1 X.1.2.1 dX9_init_205 (by decide) ?_
  refine lv_bipush (v := 32) X.1.1 X.1.2.1 dX9_init_207 (by decide) ?_
  refine lv_bipush (v := 59) X.1.1 X.1.2.1 dX9_init_209 (by decide) ?_
  refine lv_bipush (v := 32) X.1.1 X.1.2.1 dX9_init_211 (by decide) ?_
  refine lv_bipush (v := 116) X.1.1 X.1.2.1 dX9_init_213 (by decide) ?_
  refine lv_bipush (v := 97) X.1.1 X.1.2.1 dX9_init_215 (by decide) ?_
  refine lv_bipush (v := 107) X.1.1 X.1.2.1 dX9_init_217 (by decide) ?_
  refine lv_bipush (v := 101) X.1.1 X.1.2.1 dX9_init_219 (by decide) ?_
  refine lv_bipush (v := 115) X.1.1 X.1.2.1 dX9_init_221 (by decide) ?_
  refine sg_lg S (fun L => ?_)
  refine lg_Vv (I1 := I) (J1 := z2) (As := [.int 8, .int 32, .int 59, .int 32, .int 116, .int 97, .int 107, .int 101, .int 115]) (rest := []) X L (by decide) ⟨Nat.le_of_ble_eq_true rfl, Nat.le_of_ble_eq_true rfl⟩ (c_X9_spell (by decide) e2) gd_X9_84 ⟨rfl, ny_X9_spell⟩ ⟨rfl, rfl⟩ ⟨Nat.le_of_ble_eq_true rfl, Nat.le_of_ble_eq_true rfl⟩ (lg_recvL (k := 9) (i := 0) X L (ly_ok_9 (by decide) (by decide)) rfl rfl) rfl rfl hl.1 (Nat.le_of_ble_eq_true rfl) dX9_init_223 (fun H locs L => ?_)
  have S := lg_sg (cells := 0 + 1 + 1 + 1 + 1 + 1 + 1 + 1 + 1 + 1 + 1 + 1 + 1 + 1 + 1 + 1 + 1 + 1 + 1 + 1 + 1 + 1) L hsz rfl
  obtain ⟨z3, e3, hC⟩ := pz_bd_e hC
  refine lv_aload_n X.1.1 X.1.2.1 dX9_init_226 rfl (lv_at hl 0 rfl) ?_
  refine lv_bipush (v := 16) X.1.1 X.1.2.1 dX9_init_227 (by decide) ?_
  refine lv_bipush (v := 32) X.1.1 X.1.2.1 dX9_init_229 (by decide) ?_
  refine lv_bipush (v := 50) X.1.1 X.1.2.1 dX9_init_231 (by decide) ?_
  refine lv_bipush (v := 32) X.1.1 X.1.2.1 dX9_init_233 (by decide) ?_
  refine lv_bipush (v := 43) X.1.1 X.1.2.1 dX9_init_235 (by decide) ?_
  refine lv_bipush (v := 32) X.1.1 X.1.2.1 dX9_init_237 (by decide) ?_
  refine lv_bipush (v := 109) X.1.1 X.1.2.1 dX9_init_239 (by decide) ?_
  refine lv_bipush (v := 111) X.1.1 X.1.2.1 dX9_init_241 (by decide) ?_
  refine lv_bipush (v := 111) X.1.1 X.1.2.1 dX9_init_243 (by decide) ?_
  refine sg_lg S (fun L => ?_)
  refine lg_Vv (I1 := I) (J1 := z3) (As := [.int 16, .int 32, .int 50, .int 32, .int 43, .int 32, .int 109, .int 111, .int 111]) (rest := []) X L (by decide) ⟨Nat.le_of_ble_eq_true rfl, Nat.le_of_ble_eq_true rfl⟩ (c_X9_spell (by decide) e3) gd_X9_84 ⟨rfl, ny_X9_spell⟩ ⟨rfl, rfl⟩ ⟨Nat.le_of_ble_eq_true rfl, Nat.le_of_ble_eq_true rfl⟩ (lg_recvL (k := 9) (i := 0) X L (ly_ok_9 (by decide) (by decide)) rfl rfl) rfl rfl hl.1 (Nat.le_of_ble_eq_true rfl) dX9_init_245 (fun H locs L => ?_)
  have S := lg_sg (cells := 0 + 1 + 1 + 1 + 1 + 1 + 1 + 1 + 1 + 1 + 1 + 1 + 1 + 1 + 1 + 1 + 1 + 1 + 1 + 1 + 1 + 1) L hsz rfl
  obtain ⟨z4, e4, hC⟩ := pz_bd_e hC
  refine lv_aload_n X.1.1 X.1.2.1 dX9_init_248 rfl (lv_at hl 0 rfl) ?_
  refine lv_bipush (v := 24) X.1.1 X.1.2.1 dX9_init_249 (by decide) ?_
  refine lv_bipush (v := 100) X.1.1 X.1.2.1 dX9_init_251 (by decide) ?_
  refine lv_bipush (v := 32) X.1.1 X.1.2.1 dX9_init_253 (by decide) ?_
  refine lv_bipush (v := 59) X.1.1 X.1.2.1 dX9_init_255 (by decide) ?_
  refine lv_bipush (v := 32) X.1.1 X.1.2.1 dX9_init_257 (by decide) ?_
  refine lv_bipush (v := 102) X.1.1 X.1.2.1 dX9_init_259 (by decide) ?_
  refine lv_bipush (v := 105) X.1.1 X.1.2.1 dX9_init_261 (by decide) ?_
  refine lv_bipush (v := 114) X.1.1 X.1.2.1 dX9_init_263 (by decide) ?_
  refine lv_bipush (v := 115) X.1.1 X.1.2.1 dX9_init_265 (by decide) ?_
  refine sg_lg S (fun L => ?_)
  refine lg_Vv (I1 := I) (J1 := z4) (As := [.int 24, .int 100, .int 32, .int 59, .int 32, .int 102, .int 105, .int 114, .int 115]) (rest := []) X L (by decide) ⟨Nat.le_of_ble_eq_true rfl, Nat.le_of_ble_eq_true rfl⟩ (c_X9_spell (by decide) e4) gd_X9_84 ⟨rfl, ny_X9_spell⟩ ⟨rfl, rfl⟩ ⟨Nat.le_of_ble_eq_true rfl, Nat.le_of_ble_eq_true rfl⟩ (lg_recvL (k := 9) (i := 0) X L (ly_ok_9 (by decide) (by decide)) rfl rfl) rfl rfl hl.1 (Nat.le_of_ble_eq_true rfl) dX9_init_267 (fun H locs L => ?_)
  have S := lg_sg (cells := 0 + 1 + 1 + 1 + 1 + 1 + 1 + 1 + 1 + 1 + 1 + 1 + 1 + 1 + 1 + 1 + 1 + 1 + 1 + 1 + 1 + 1) L hsz rfl
  obtain ⟨z5, e5, hC⟩ := pz_bd_e hC
  refine lv_aload_n X.1.1 X.1.2.1 dX9_init_270 rfl (lv_at hl 0 rfl) ?_
  refine lv_bipush (v := 32) X.1.1 X.1.2.1 dX9_init_271 (by decide) ?_
  refine lv_bipush (v := 116) X.1.1 X.1.2.1 dX9_init_273 (by decide) ?_
  refine lv_bipush (v := 32) X.1.1 X.1.2.1 dX9_init_275 (by decide) ?_
  refine lv_bipush (v := 119) X.1.1 X.1.2.1 dX9_init_277 (by decide) ?_
  refine lv_bipush (v := 97) X.1.1 X.1.2.1 dX9_init_279 (by decide) ?_
  refine lv_bipush (v := 105) X.1.1 X.1.2.1 dX9_init_281 (by decide) ?_
  refine lv_bipush (v := 116) X.1.1 X.1.2.1 dX9_init_283 (by decide) ?_
  refine lv_bipush (v := 101) X.1.1 X.1.2.1 dX9_init_285 (by decide) ?_
  refine lv_bipush (v := 100) X.1.1 X.1.2.1 dX9_init_287 (by decide) ?_
  refine sg_lg S (fun L => ?_)
  refine lg_Vv (I1 := I) (J1 := z5) (As := [.int 32, .int 116, .int 32, .int 119, .int 97, .int 105, .int 116, .int 101, .int 100]) (rest := []) X L (by decide) ⟨Nat.le_of_ble_eq_true rfl, Nat.le_of_ble_eq_true rfl⟩ (c_X9_spell (by decide) e5) gd_X9_84 ⟨rfl, ny_X9_spell⟩ ⟨rfl, rfl⟩ ⟨Nat.le_of_ble_eq_true rfl, Nat.le_of_ble_eq_true rfl⟩ (lg_recvL (k := 9) (i := 0) X L (ly_ok_9 (by decide) (by decide)) rfl rfl) rfl rfl hl.1 (Nat.le_of_ble_eq_true rfl) dX9_init_289 (fun H locs L => ?_)
  have S := lg_sg (cells := 0 + 1 + 1 + 1 + 1 + 1 + 1 + 1 + 1 + 1 + 1 + 1 + 1 + 1 + 1 + 1 + 1 + 1 + 1 + 1 + 1 + 1) L hsz rfl
  obtain ⟨z6, e6, hC⟩ := pz_bd_e hC
  refine lv_aload_n X.1.1 X.1.2.1 dX9_init_292 rfl (lv_at hl 0 rfl) ?_
  refine lv_bipush (v := 40) X.1.1 X.1.2.1 dX9_init_293 (by decide) ?_
  refine lv_bipush (v := 32) X.1.1 X.1.2.1 dX9_init_295 (by decide) ?_
  refine lv_bipush (v := 45) X.1.1 X.1.2.1 dX9_init_297 (by decide) ?_
  refine lv_bipush (v := 32) X.1.1 X.1.2.1 dX9_init_299 (by decide) ?_
  refine lv_bipush (v := 115) X.1.1 X.1.2.1 dX9_init_301 (by decide) ?_
  refine lv_bipush (v := 117) X.1.1 X.1.2.1 dX9_init_303 (by decide) ?_
  refine lv_bipush (v := 110) X.1.1 X.1.2.1 dX9_init_305 (by decide) ?_
  refine lv_bipush (v := 103) X.1.1 X.1.2.1 dX9_init_307 (by decide) ?_
  refine lv_bipush (v := 32) X.1.1 X.1.2.1 dX9_init_309 (by decide) ?_
  refine sg_lg S (fun L => ?_)
  refine lg_Vv (I1 := I) (J1 := z6) (As := [.int 40, .int 32, .int 45, .int 32, .int 115, .int 117, .int 110, .int 103, .int 32]) (rest := []) X L (by decide) ⟨Nat.le_of_ble_eq_true rfl, Nat.le_of_ble_eq_true rfl⟩ (c_X9_spell (by decide) e6) gd_X9_84 ⟨rfl, ny_X9_spell⟩ ⟨rfl, rfl⟩ ⟨Nat.le_of_ble_eq_true rfl, Nat.le_of_ble_eq_true rfl⟩ (lg_recvL (k := 9) (i := 0) X L (ly_ok_9 (by decide) (by decide)) rfl rfl) rfl rfl hl.1 (Nat.le_of_ble_eq_true rfl) dX9_init_311 (fun H locs L => ?_)
  have S := lg_sg (cells := 0 + 1 + 1 + 1 + 1 + 1 + 1 + 1 + 1 + 1 + 1 + 1 + 1 + 1 + 1 + 1 + 1 + 1 + 1 + 1 + 1 + 1) L hsz rfl
  obtain ⟨z7, e7, hC⟩ := pz_bd_e hC
  refine lv_aload_n X.1.1 X.1.2.1 dX9_init_314 rfl (lv_at hl 0 rfl) ?_
  refine lv_bipush (v := 48) X.1.1 X.1.2.1 dX9_init_315 (by decide) ?_
  refine lv_bipush (v := 42) X.1.1 X.1.2.1 dX9_init_317 (by decide) ?_
  refine lv_bipush (v := 32) X.1.1 X.1.2.1 dX9_init_319 (by decide) ?_
  refine lv_bipush (v := 57) X.1.1 X.1.2.1 dX9_init_321 (by decide) ?_
  refine lv_bipush (v := 32) X.1.1 X.1.2.1 dX9_init_323 (by decide) ?_
  refine lv_bipush (v := 59) X.1.1 X.1.2.1 dX9_init_325 (by decide) ?_
  refine lv_bipush (v := 32) X.1.1 X.1.2.1 dX9_init_327 (by decide) ?_
  refine lv_bipush (v := 32) X.1.1 X.1.2.1 dX9_init_329 (by decide) ?_
  refine lv_bipush (v := 32) X.1.1 X.1.2.1 dX9_init_331 (by decide) ?_
  refine sg_lg S (fun L => ?_)
  refine lg_Vv (I1 := I) (J1 := z7) (As := [.int 48, .int 42, .int 32, .int 57, .int 32, .int 59, .int 32, .int 32, .int 32]) (rest := []) X L (by decide) ⟨Nat.le_of_ble_eq_true rfl, Nat.le_of_ble_eq_true rfl⟩ (c_X9_spell (by decide) e7) gd_X9_84 ⟨rfl, ny_X9_spell⟩ ⟨rfl, rfl⟩ ⟨Nat.le_of_ble_eq_true rfl, Nat.le_of_ble_eq_true rfl⟩ (lg_recvL (k := 9) (i := 0) X L (ly_ok_9 (by decide) (by decide)) rfl rfl) rfl rfl hl.1 (Nat.le_of_ble_eq_true rfl) dX9_init_333 (fun H locs L => ?_)
  have S := lg_sg (cells := 0 + 1 + 1 + 1 + 1 + 1 + 1 + 1 + 1 + 1 + 1 + 1 + 1 + 1 + 1 + 1 + 1 + 1 + 1 + 1 + 1 + 1) L hsz rfl
  have hC := Option.some.inj hC
  refine lv_aload_n X.1.1 X.1.2.1 dX9_init_336 rfl (lv_at hl 0 rfl) ?_
  have o9 : ly_ok 144 9 0 := ly_ok_9 (by decide) (by decide)
  have o31 : ly_ok 144 31 0 := ly_ok_31 (by decide) (by decide)
  refine sg_get X S (k := 122) (by omega) (show ly_cell G (mm_mx I z7) 122 = ly_K G 9 0 (z7 9 0) from ly_at o9) (show vwCl[9]? = some (RX9, TX9, 61) from rfl) in_X9 2 (by decide) lk_X9_17 rfl dX9_init_337 ?_
  refine lv_iconst (v := 0) X.1.1 X.1.2.1 dX9_init_340 (by decide) ?_
  refine lv_bipush (v := 56) X.1.1 X.1.2.1 dX9_init_341 (by decide) ?_
  refine sg_iast X S (k := ly_loc 31 0) (by decide) (show ly_cell G (mm_mx I z7) (ly_loc 31 0) = ly_K G 31 0 (z7 31 0) from ly_at o31) (by decide) dX9_init_343 (fun H locs S => ?_)
  have S : sg_ok G 123 144 (ly_cell G (mm_mx I (mm_up z7 31 0 0 56))) s H locs (0 + 1 + 1 + 1 + 1 + 1 + 1 + 1 + 1 + 1 + 1 + 1 + 1 + 1 + 1 + 1 + 1 + 1 + 1 + 1 + 1 + 1) := by
    unfold mm_up; rw [mm_mx_rowJ rfl, ly_up o31]; exact S
  refine lv_aload_n X.1.1 X.1.2.1 dX9_init_344 rfl (lv_at hl 0 rfl) ?_
  refine lv_iconst (v := 1) X.1.1 X.1.2.1 dX9_init_345 (by decide) ?_
  obtain ⟨z8, e8⟩ : ∃ z, z = mm_up z7 31 0 0 56 := ⟨_, rfl⟩
  rw [← e8] at S hC
  refine sg_put X S (k := ly_loc 9 0) (by decide) (show ly_cell G (mm_mx I z8) (ly_loc 9 0) = ly_K G 9 0 (z8 9 0) from ly_at o9) (show vwCl[9]? = some (RX9, TX9, 61) from rfl) in_X9 tyX9_ok nmX9 3 (by decide) lk_X9_88 rfl rfl rfl (Nat.le_of_ble_eq_true rfl) dX9_init_346 (fun H locs S => ?_)
  have S : sg_ok G 123 144 (ly_cell G (mm_mx I jc_C)) s H locs (0 + 1 + 1 + 1 + 1 + 1 + 1 + 1 + 1 + 1 + 1 + 1 + 1 + 1 + 1 + 1 + 1 + 1 + 1 + 1 + 1 + 1) := by
    rw [← hC]; unfold mm_up; rw [mm_mx_rowJ rfl, ly_up o9]; exact S
  exact sg_vret X S rfl (fun _ _ => rfl) dX9_init_349
