/-! ===== constructors ===== -/
theorem oi_i : Cond.instanceMethod Lib.objectInit ∈ gw_t := gw_mem 88 (by decide +kernel) (by decide +kernel)
theorem oi_c : Cond.code Lib.objectInit ⟨#[0xb1]⟩ 1 none ∈ gw_t := gw_mem 89 (by decide +kernel) (by decide +kernel)
theorem ac_i : Cond.arrayClass .int ∈ gw_t := gw_mem 225 (by decide +kernel) (by decide +kernel)
theorem ac_z : Cond.arrayClass .boolean ∈ gw_t := gw_mem 1113 (by decide +kernel) (by decide +kernel)
theorem ol_X0 : Cond.methodLink RX0 3 Lib.objectInit ∈ gw_t := gw_mem 233 (by decide +kernel) (by decide +kernel)
theorem ol_X1 : Cond.methodLink RX1 3 Lib.objectInit ∈ gw_t := gw_mem 95 (by decide +kernel) (by decide +kernel)
theorem il_X1_27 : Cond.methodLinkNest RX1 27 yX2_init "WhoSingsNext" ∈ nw_t := nw_mem 101 (by decide +kernel) (by decide +kernel)
theorem il_X1_28 : Cond.methodLinkNest RX1 28 yX6_init "WhoSingsNext" ∈ nw_t := nw_mem 117 (by decide +kernel) (by decide +kernel)
theorem ol_X2 : Cond.methodLink RX2 1 Lib.objectInit ∈ gw_t := gw_mem 104 (by decide +kernel) (by decide +kernel)
theorem ol_X3 : Cond.methodLink RX3 3 Lib.objectInit ∈ gw_t := gw_mem 188 (by decide +kernel) (by decide +kernel)
theorem il_X3_62 : Cond.methodLink RX3 62 yX7_init ∈ gw_t := gw_mem 529 (by decide +kernel) (by decide +kernel)
theorem ol_X4 : Cond.methodLink RX4 3 Lib.objectInit ∈ gw_t := gw_mem 297 (by decide +kernel) (by decide +kernel)
theorem il_X4_38 : Cond.methodLink RX4 38 yX0_init ∈ gw_t := gw_mem 300 (by decide +kernel) (by decide +kernel)
theorem ol_X5 : Cond.methodLink RX5 3 Lib.objectInit ∈ gw_t := gw_mem 551 (by decide +kernel) (by decide +kernel)
theorem ol_X6 : Cond.methodLink RX6 3 Lib.objectInit ∈ gw_t := gw_mem 120 (by decide +kernel) (by decide +kernel)
theorem ol_X7 : Cond.methodLink RX7 1 Lib.objectInit ∈ gw_t := gw_mem 532 (by decide +kernel) (by decide +kernel)
theorem ol_X8 : Cond.methodLink RX8 1 Lib.objectInit ∈ gw_t := gw_mem 87 (by decide +kernel) (by decide +kernel)
theorem il_X8_9 : Cond.methodLink RX8 9 yX1_init ∈ gw_t := gw_mem 92 (by decide +kernel) (by decide +kernel)
theorem il_X8_21 : Cond.methodLinkNest RX8 21 yX3_init "WhoSingsNext" ∈ nw_t := nw_mem 185 (by decide +kernel) (by decide +kernel)
theorem il_X8_34 : Cond.methodLink RX8 34 yX0_init ∈ gw_t := gw_mem 230 (by decide +kernel) (by decide +kernel)
theorem il_X8_43 : Cond.methodLink RX8 43 yX4_init ∈ gw_t := gw_mem 294 (by decide +kernel) (by decide +kernel)
theorem il_X8_82 : Cond.methodLinkNest RX8 82 yX5_init "WhoSingsNext" ∈ nw_t := nw_mem 548 (by decide +kernel) (by decide +kernel)
theorem ol_X9 : Cond.methodLink RX9 7 Lib.objectInit ∈ gw_t := gw_mem 925 (by decide +kernel) (by decide +kernel)
theorem ii_X0_init : Cond.instanceMethod yX0_init ∈ gw_t ∧ Cond.initialized yX0_init.cls ∈ gw_t := ⟨gw_mem 231 (by decide +kernel) (by decide +kernel), gw_mem 68 (by decide +kernel) (by decide +kernel)⟩
theorem iy_X0_init : yX0_init.cls ≠ "java/lang/invoke/MethodHandle" ∧ yX0_init.cls ≠ "java/lang/invoke/VarHandle" ∧ (parseMethodDescriptor yX0_init.desc).map (fun d => d.parameters.length) = some 1 := by decide +kernel
theorem ii_X1_init : Cond.instanceMethod yX1_init ∈ gw_t ∧ Cond.initialized yX1_init.cls ∈ gw_t := ⟨gw_mem 93 (by decide +kernel) (by decide +kernel), gw_mem 64 (by decide +kernel) (by decide +kernel)⟩
theorem iy_X1_init : yX1_init.cls ≠ "java/lang/invoke/MethodHandle" ∧ yX1_init.cls ≠ "java/lang/invoke/VarHandle" ∧ (parseMethodDescriptor yX1_init.desc).map (fun d => d.parameters.length) = some 0 := by decide +kernel
theorem ii_X2_init : Cond.instanceMethod yX2_init ∈ gw_t ∧ Cond.initialized yX2_init.cls ∈ gw_t := ⟨gw_mem 102 (by decide +kernel) (by decide +kernel), gw_mem 65 (by decide +kernel) (by decide +kernel)⟩
theorem iy_X2_init : yX2_init.cls ≠ "java/lang/invoke/MethodHandle" ∧ yX2_init.cls ≠ "java/lang/invoke/VarHandle" ∧ (parseMethodDescriptor yX2_init.desc).map (fun d => d.parameters.length) = some 0 := by decide +kernel
theorem ii_X3_init : Cond.instanceMethod yX3_init ∈ gw_t ∧ Cond.initialized yX3_init.cls ∈ gw_t := ⟨gw_mem 186 (by decide +kernel) (by decide +kernel), gw_mem 67 (by decide +kernel) (by decide +kernel)⟩
theorem iy_X3_init : yX3_init.cls ≠ "java/lang/invoke/MethodHandle" ∧ yX3_init.cls ≠ "java/lang/invoke/VarHandle" ∧ (parseMethodDescriptor yX3_init.desc).map (fun d => d.parameters.length) = some 0 := by decide +kernel
theorem ii_X4_init : Cond.instanceMethod yX4_init ∈ gw_t ∧ Cond.initialized yX4_init.cls ∈ gw_t := ⟨gw_mem 295 (by decide +kernel) (by decide +kernel), gw_mem 69 (by decide +kernel) (by decide +kernel)⟩
theorem iy_X4_init : yX4_init.cls ≠ "java/lang/invoke/MethodHandle" ∧ yX4_init.cls ≠ "java/lang/invoke/VarHandle" ∧ (parseMethodDescriptor yX4_init.desc).map (fun d => d.parameters.length) = some 1 := by decide +kernel
theorem ii_X5_init : Cond.instanceMethod yX5_init ∈ gw_t ∧ Cond.initialized yX5_init.cls ∈ gw_t := ⟨gw_mem 549 (by decide +kernel) (by decide +kernel), gw_mem 79 (by decide +kernel) (by decide +kernel)⟩
theorem iy_X5_init : yX5_init.cls ≠ "java/lang/invoke/MethodHandle" ∧ yX5_init.cls ≠ "java/lang/invoke/VarHandle" ∧ (parseMethodDescriptor yX5_init.desc).map (fun d => d.parameters.length) = some 0 := by decide +kernel
theorem ii_X6_init : Cond.instanceMethod yX6_init ∈ gw_t ∧ Cond.initialized yX6_init.cls ∈ gw_t := ⟨gw_mem 118 (by decide +kernel) (by decide +kernel), gw_mem 66 (by decide +kernel) (by decide +kernel)⟩
theorem iy_X6_init : yX6_init.cls ≠ "java/lang/invoke/MethodHandle" ∧ yX6_init.cls ≠ "java/lang/invoke/VarHandle" ∧ (parseMethodDescriptor yX6_init.desc).map (fun d => d.parameters.length) = some 0 := by decide +kernel
theorem ii_X7_init : Cond.instanceMethod yX7_init ∈ gw_t ∧ Cond.initialized yX7_init.cls ∈ gw_t := ⟨gw_mem 530 (by decide +kernel) (by decide +kernel), gw_mem 76 (by decide +kernel) (by decide +kernel)⟩
theorem iy_X7_init : yX7_init.cls ≠ "java/lang/invoke/MethodHandle" ∧ yX7_init.cls ≠ "java/lang/invoke/VarHandle" ∧ (parseMethodDescriptor yX7_init.desc).map (fun d => d.parameters.length) = some 3 := by decide +kernel
theorem ii_X8_init : Cond.instanceMethod yX8_init ∈ gw_t ∧ Cond.initialized yX8_init.cls ∈ gw_t := ⟨gw_mem 85 (by decide +kernel) (by decide +kernel), gw_mem 63 (by decide +kernel) (by decide +kernel)⟩
theorem iy_X8_init : yX8_init.cls ≠ "java/lang/invoke/MethodHandle" ∧ yX8_init.cls ≠ "java/lang/invoke/VarHandle" ∧ (parseMethodDescriptor yX8_init.desc).map (fun d => d.parameters.length) = some 0 := by decide +kernel
theorem ii_X9_init : Cond.instanceMethod yX9_init ∈ gw_t ∧ Cond.initialized yX9_init.cls ∈ gw_t := ⟨gw_mem 923 (by decide +kernel) (by decide +kernel), gw_mem 80 (by decide +kernel) (by decide +kernel)⟩
theorem iy_X9_init : yX9_init.cls ≠ "java/lang/invoke/MethodHandle" ∧ yX9_init.cls ≠ "java/lang/invoke/VarHandle" ∧ (parseMethodDescriptor yX9_init.desc).map (fun d => d.parameters.length) = some 0 := by decide +kernel
theorem nu_X0 : Cond.instantiable RX0 16 ∈ gw_t ∧ Cond.initialized RX0 ∈ gw_t := ⟨gw_mem 229 (by decide +kernel) (by decide +kernel), gw_mem 68 (by decide +kernel) (by decide +kernel)⟩
theorem nu_X1 : Cond.instantiable RX1 8 ∈ gw_t ∧ Cond.initialized RX1 ∈ gw_t := ⟨gw_mem 91 (by decide +kernel) (by decide +kernel), gw_mem 64 (by decide +kernel) (by decide +kernel)⟩
theorem nu_X2 : Cond.instantiable RX2 2 ∈ gw_t ∧ Cond.initialized RX2 ∈ gw_t := ⟨gw_mem 100 (by decide +kernel) (by decide +kernel), gw_mem 65 (by decide +kernel) (by decide +kernel)⟩
theorem nu_X3 : Cond.instantiable RX3 11 ∈ gw_t ∧ Cond.initialized RX3 ∈ gw_t := ⟨gw_mem 184 (by decide +kernel) (by decide +kernel), gw_mem 67 (by decide +kernel) (by decide +kernel)⟩
theorem nu_X4 : Cond.instantiable RX4 7 ∈ gw_t ∧ Cond.initialized RX4 ∈ gw_t := ⟨gw_mem 293 (by decide +kernel) (by decide +kernel), gw_mem 69 (by decide +kernel) (by decide +kernel)⟩
theorem nu_X5 : Cond.instantiable RX5 3 ∈ gw_t ∧ Cond.initialized RX5 ∈ gw_t := ⟨gw_mem 547 (by decide +kernel) (by decide +kernel), gw_mem 79 (by decide +kernel) (by decide +kernel)⟩
theorem nu_X6 : Cond.instantiable RX6 4 ∈ gw_t ∧ Cond.initialized RX6 ∈ gw_t := ⟨gw_mem 116 (by decide +kernel) (by decide +kernel), gw_mem 66 (by decide +kernel) (by decide +kernel)⟩
theorem nu_X7 : Cond.instantiable RX7 4 ∈ gw_t ∧ Cond.initialized RX7 ∈ gw_t := ⟨gw_mem 514 (by decide +kernel) (by decide +kernel), gw_mem 76 (by decide +kernel) (by decide +kernel)⟩
theorem nu_X8 : Cond.instantiable RX8 9 ∈ gw_t ∧ Cond.initialized RX8 ∈ gw_t := ⟨gw_mem 83 (by decide +kernel) (by decide +kernel), gw_mem 63 (by decide +kernel) (by decide +kernel)⟩
theorem nu_X9 : Cond.instantiable RX9 61 ∈ gw_t ∧ Cond.initialized RX9 ∈ gw_t := ⟨gw_mem 921 (by decide +kernel) (by decide +kernel), gw_mem 80 (by decide +kernel) (by decide +kernel)⟩
theorem kl_L_7 : Cond.classLink RL 7 RX8 ∈ gw_t := gw_mem 82 (by decide +kernel) (by decide +kernel)
theorem kl_L_10 : Cond.classLink RL 10 RX9 ∈ gw_t := gw_mem 920 (by decide +kernel) (by decide +kernel)
theorem kl_X1_9 : Cond.classLink RX1 9 RX2 ∈ gw_t := gw_mem 96 (by decide +kernel) (by decide +kernel)
theorem kl_X1_17 : Cond.classLink RX1 17 RX6 ∈ gw_t := gw_mem 98 (by decide +kernel) (by decide +kernel)
theorem kl_X3_54 : Cond.classLink RX3 54 RX7 ∈ gw_t := gw_mem 513 (by decide +kernel) (by decide +kernel)
theorem kl_X4_9 : Cond.classLink RX4 9 RX0 ∈ gw_t := gw_mem 298 (by decide +kernel) (by decide +kernel)
theorem kl_X8_7 : Cond.classLink RX8 7 RX1 ∈ gw_t := gw_mem 90 (by decide +kernel) (by decide +kernel)
theorem kl_X8_19 : Cond.classLink RX8 19 RX3 ∈ gw_t := gw_mem 183 (by decide +kernel) (by decide +kernel)
theorem kl_X8_26 : Cond.classLink RX8 26 RX7 ∈ gw_t := gw_mem 226 (by decide +kernel) (by decide +kernel)
theorem kl_X8_32 : Cond.classLink RX8 32 RX0 ∈ gw_t := gw_mem 228 (by decide +kernel) (by decide +kernel)
theorem kl_X8_41 : Cond.classLink RX8 41 RX4 ∈ gw_t := gw_mem 292 (by decide +kernel) (by decide +kernel)
theorem kl_X8_48 : Cond.classLink RX8 48 RX5 ∈ gw_t := gw_mem 323 (by decide +kernel) (by decide +kernel)
theorem df_X0 : ∀ j, j < 16 → defaultValue (tyX0 j) = vp_V [.null, .null, .null, .null, .null, .null, .null, .int 0, .null, .int 0, .int 0, .int 0, .int 0, .int 0, .int 0, .int 0] j := by
  intro j hj
  match j, hj with
  | 0, _ => rfl
  | 1, _ => rfl
  | 2, _ => rfl
  | 3, _ => rfl
  | 4, _ => rfl
  | 5, _ => rfl
  | 6, _ => rfl
  | 7, _ => rfl
  | 8, _ => rfl
  | 9, _ => rfl
  | 10, _ => rfl
  | 11, _ => rfl
  | 12, _ => rfl
  | 13, _ => rfl
  | 14, _ => rfl
  | 15, _ => rfl
  | j + 16, hj => exact absurd hj (by omega)
theorem df_X1 : ∀ j, j < 8 → defaultValue (tyX1 j) = vp_V [.null, .null, .int 0, .int 0, .int 0, .int 0, .int 0, .int 0] j := by
  intro j hj
  match j, hj with
  | 0, _ => rfl
  | 1, _ => rfl
  | 2, _ => rfl
  | 3, _ => rfl
  | 4, _ => rfl
  | 5, _ => rfl
  | 6, _ => rfl
  | 7, _ => rfl
  | j + 8, hj => exact absurd hj (by omega)
theorem df_X2 : ∀ j, j < 2 → defaultValue (tyX2 j) = vp_V [.int 0, .int 0] j := by
  intro j hj
  match j, hj with
  | 0, _ => rfl
  | 1, _ => rfl
  | j + 2, hj => exact absurd hj (by omega)
theorem df_X3 : ∀ j, j < 11 → defaultValue (tyX3 j) = vp_V [.null, .int 0, .null, .int 0, .int 0, .int 0, .int 0, .int 0, .int 0, .int 0, .int 0] j := by
  intro j hj
  match j, hj with
  | 0, _ => rfl
  | 1, _ => rfl
  | 2, _ => rfl
  | 3, _ => rfl
  | 4, _ => rfl
  | 5, _ => rfl
  | 6, _ => rfl
  | 7, _ => rfl
  | 8, _ => rfl
  | 9, _ => rfl
  | 10, _ => rfl
  | j + 11, hj => exact absurd hj (by omega)
theorem df_X4 : ∀ j, j < 7 → defaultValue (tyX4 j) = vp_V [.null, .null, .null, .null, .null, .null, .int 0] j := by
  intro j hj
  match j, hj with
  | 0, _ => rfl
  | 1, _ => rfl
  | 2, _ => rfl
  | 3, _ => rfl
  | 4, _ => rfl
  | 5, _ => rfl
  | 6, _ => rfl
  | j + 7, hj => exact absurd hj (by omega)
theorem df_X5 : ∀ j, j < 3 → defaultValue (tyX5 j) = vp_V [.null, .int 0, .int 0] j := by
  intro j hj
  match j, hj with
  | 0, _ => rfl
  | 1, _ => rfl
  | 2, _ => rfl
  | j + 3, hj => exact absurd hj (by omega)
theorem df_X6 : ∀ j, j < 4 → defaultValue (tyX6 j) = vp_V [.int 0, .int 0, .int 0, .int 0] j := by
  intro j hj
  match j, hj with
  | 0, _ => rfl
  | 1, _ => rfl
  | 2, _ => rfl
  | 3, _ => rfl
  | j + 4, hj => exact absurd hj (by omega)
theorem df_X7 : ∀ j, j < 4 → defaultValue (tyX7 j) = vp_V [.null, .int 0, .int 0, .null] j := by
  intro j hj
  match j, hj with
  | 0, _ => rfl
  | 1, _ => rfl
  | 2, _ => rfl
  | 3, _ => rfl
  | j + 4, hj => exact absurd hj (by omega)
theorem df_X8 : ∀ j, j < 9 → defaultValue (tyX8 j) = vp_V [.null, .null, .int 0, .null, .null, .int 0, .null, .null, .null] j := by
  intro j hj
  match j, hj with
  | 0, _ => rfl
  | 1, _ => rfl
  | 2, _ => rfl
  | 3, _ => rfl
  | 4, _ => rfl
  | 5, _ => rfl
  | 6, _ => rfl
  | 7, _ => rfl
  | 8, _ => rfl
  | j + 9, hj => exact absurd hj (by omega)
theorem df_X9 : ∀ j, j < 61 → defaultValue (tyX9 j) = vp_V [.int 0, .null, .null, .int 0, .int 0, .null, .int 0, .null, .null, .int 0, .null, .null, .null, .null, .int 0, .int 0, .int 0, .int 0, .int 0, .int 0, .int 0, .int 0, .int 0, .int 0, .int 0, .int 0, .int 0, .int 0, .long 0, .int 0, .int 0, .int 0, .int 0, .int 0, .int 0, .int 0, .int 0, .null, .null, .int 0, .int 0, .null, .null, .null, .null, .int 0, .int 0, .int 0, .int 0, .int 0, .null, .null, .int 0, .int 0, .int 0, .int 0, .int 0, .null, .null, .null, .null] j := by
  intro j hj
  match j, hj with
  | 0, _ => rfl
  | 1, _ => rfl
  | 2, _ => rfl
  | 3, _ => rfl
  | 4, _ => rfl
  | 5, _ => rfl
  | 6, _ => rfl
  | 7, _ => rfl
  | 8, _ => rfl
  | 9, _ => rfl
  | 10, _ => rfl
  | 11, _ => rfl
  | 12, _ => rfl
  | 13, _ => rfl
  | 14, _ => rfl
  | 15, _ => rfl
  | 16, _ => rfl
  | 17, _ => rfl
  | 18, _ => rfl
  | 19, _ => rfl
  | 20, _ => rfl
  | 21, _ => rfl
  | 22, _ => rfl
  | 23, _ => rfl
  | 24, _ => rfl
  | 25, _ => rfl
  | 26, _ => rfl
  | 27, _ => rfl
  | 28, _ => rfl
  | 29, _ => rfl
  | 30, _ => rfl
  | 31, _ => rfl
  | 32, _ => rfl
  | 33, _ => rfl
  | 34, _ => rfl
  | 35, _ => rfl
  | 36, _ => rfl
  | 37, _ => rfl
  | 38, _ => rfl
  | 39, _ => rfl
  | 40, _ => rfl
  | 41, _ => rfl
  | 42, _ => rfl
  | 43, _ => rfl
  | 44, _ => rfl
  | 45, _ => rfl
  | 46, _ => rfl
  | 47, _ => rfl
  | 48, _ => rfl
  | 49, _ => rfl
  | 50, _ => rfl
  | 51, _ => rfl
  | 52, _ => rfl
  | 53, _ => rfl
  | 54, _ => rfl
  | 55, _ => rfl
  | 56, _ => rfl
  | 57, _ => rfl
  | 58, _ => rfl
  | 59, _ => rfl
  | 60, _ => rfl
  | j + 61, hj => exact absurd hj (by omega)
set_option maxRecDepth 100000 in
set_option maxHeartbeats 4000000 in
theorem k_X2 {l : Launch} {G : cx_T} {M : Nat → va_E} {k n : Nat} (hk : k < n) (f0 : M k = .inr (2, [.int 0, .int 0])) : cg_m l G n yX2_init cX2_init 1 none ({ frames := 1, cells := 0, slots := 0, locals := 12 }) [.ref (cx_b G + k)] M (cg_qv G (n + 0) (M)) 0 0 := by
  refine cg_en (by decide) (Nat.le_of_ble_eq_true rfl) ?_
  intro p e s m args below meth c ls hin2 X S hl
  have hin2 : meth.name = "<init>" := hin2
  have X : cx_oi G p s m args meth c cX2_init 1 RX2 none := X
  have hl : lv_has ls 1 [(0, .ref (cx_b G + k))] := hl
  refine lv_aload_n X.1.1 X.1.2.1 dX2_init_0 rfl (lv_at hl 0 rfl) ?_
  refine sg_oi X ol_X2 oi_i oi_c hl.1 dX2_init_1 (Nat.le_of_ble_eq_true rfl) (Nat.le_of_ble_eq_true rfl) ?_
  exact sg_vret X S rfl (fun j _ => by skip; rfl) dX2_init_4
set_option maxRecDepth 100000 in
set_option maxHeartbeats 4000000 in
theorem k_X6 {l : Launch} {G : cx_T} {M : Nat → va_E} {k n : Nat} (hk : k < n) (f0 : M k = .inr (6, [.int 0, .int 0, .int 0, .int 0])) : cg_m l G n yX6_init cX6_init 1 none ({ frames := 1, cells := 0, slots := 0, locals := 12 }) [.ref (cx_b G + k)] M (cg_qv G (n + 0) (M)) 0 0 := by
  refine cg_en (by decide) (Nat.le_of_ble_eq_true rfl) ?_
  intro p e s m args below meth c ls hin2 X S hl
  have hin2 : meth.name = "<init>" := hin2
  have X : cx_oi G p s m args meth c cX6_init 1 RX6 none := X
  have hl : lv_has ls 1 [(0, .ref (cx_b G + k))] := hl
  refine lv_aload_n X.1.1 X.1.2.1 dX6_init_0 rfl (lv_at hl 0 rfl) ?_
  refine sg_oi X ol_X6 oi_i oi_c hl.1 dX6_init_1 (Nat.le_of_ble_eq_true rfl) (Nat.le_of_ble_eq_true rfl) ?_
  exact sg_vret X S rfl (fun j _ => by skip; rfl) dX6_init_4
def mk_X3 (G : cx_T) (M : Nat → va_E) (k n : Nat) : Nat → va_E := va_up (va_up (va_up (va_up (M) n (.inl (cx_c G 0, 160, .inl (fun _ => 0)))) k (.inr (3, [.ref (cx_b G + n), .int 0, .null, .int 0, .int 0, .int 0, .int 0, .int 0, .int 0, .int 0, .int 0]))) (n + 1) (.inl (cx_c G 0, 160, .inl (fun _ => 0)))) k (.inr (3, [.ref (cx_b G + n), .int 0, .ref (cx_b G + (n + 1)), .int 0, .int 0, .int 0, .int 0, .int 0, .int 0, .int 0, .int 0]))
theorem mk_X3_old {G : cx_T} {M : Nat → va_E} {k n j : Nat} (h1 : j ≠ k) (h2 : j < n) : mk_X3 G M k n j = M j := by
  unfold mk_X3; rw [up_ne (by omega), up_ne (by omega), up_ne (by omega), up_ne (by omega)]
theorem mk_X3_at {G : cx_T} {M : Nat → va_E} {k n : Nat} (hk : k < n) : mk_X3 G M k n k = .inr (3, [.ref (cx_b G + n), .int 0, .ref (cx_b G + (n + 1)), .int 0, .int 0, .int 0, .int 0, .int 0, .int 0, .int 0, .int 0]) := by
  unfold mk_X3; first | exact up_at rfl | (rw [up_ne (by omega)]; exact up_at rfl)
set_option maxRecDepth 100000 in
set_option maxHeartbeats 4000000 in
theorem k_X3 {l : Launch} {G : cx_T} {M : Nat → va_E} {k n : Nat} (hk : k < n) (f0 : M k = .inr (3, [.null, .int 0, .null, .int 0, .int 0, .int 0, .int 0, .int 0, .int 0, .int 0, .int 0])) : cg_m l G n yX3_init cX3_init 1 none ({ frames := 1, cells := 2, slots := 320, locals := 12 }) [.ref (cx_b G + k)] M (cg_qv G (n + 2) (mk_X3 G M k n)) 2 320 := by
  refine cg_en (by decide) (Nat.le_of_ble_eq_true rfl) ?_
  intro p e s m args below meth c ls hin2 X S hl
  have hin2 : meth.name = "<init>" := hin2
  have X : cx_oi G p s m args meth c cX3_init 1 RX3 none := X
  have hl : lv_has ls 1 [(0, .ref (cx_b G + k))] := hl
  refine lv_aload_n X.1.1 X.1.2.1 dX3_init_0 rfl (lv_at hl 0 rfl) ?_
  refine sg_oi X ol_X3 oi_i oi_c hl.1 dX3_init_1 (Nat.le_of_ble_eq_true rfl) (Nat.le_of_ble_eq_true rfl) ?_
  refine lv_aload_n X.1.1 X.1.2.1 dX3_init_4 rfl (lv_at hl 0 rfl) ?_
  refine lv_sipush (v := 160) X.1.1 X.1.2.1 dX3_init_5 (by decide) ?_
  obtain ⟨M1, eM1⟩ : ∃ z, z = va_up M n (.inl (cx_c G 0, 160, .inl (fun _ => 0))) := ⟨_, rfl⟩
  have f1_k : M1 k = .inr (3, [.null, .int 0, .null, .int 0, .int 0, .int 0, .int 0, .int 0, .int 0, .int 0, .int 0]) := by rw [eM1, up_ne (by omega)]; exact f0
  have f1_n : M1 n = .inl (cx_c G 0, 160, .inl (fun _ => 0)) := by rw [eM1]; exact up_at rfl
  have S := S.to (M' := M1) (fun j hj => by rw [eM1, up_ne (by omega)])
  refine sg_newi (N := 160) X S f1_n (by decide) rfl (Nat.le_of_ble_eq_true rfl) (Nat.le_of_ble_eq_true rfl) (Nat.le_of_ble_eq_true rfl) ac_i dX3_init_8 (fun H S => ?_)
  refine sg_putF X hin2 S (by omega) f1_k (show vwCl[3]? = some (RX3, TX3, 11) from rfl) in_X3 tyX3_ok nmX3 0 (by decide) rfl lk_X3_9 rfl rfl rfl (Nat.le_of_ble_eq_true rfl) dX3_init_10 (fun H locs S => ?_)
  obtain ⟨M2, eM2⟩ : ∃ z, z = va_up M1 k (.inr (3, [.ref (cx_b G + n), .int 0, .null, .int 0, .int 0, .int 0, .int 0, .int 0, .int 0, .int 0, .int 0])) := ⟨_, rfl⟩
  have f2_n : M2 n = .inl (cx_c G 0, 160, .inl (fun _ => 0)) := by rw [eM2, up_ne (by omega)]; exact f1_n
  have f2_k : M2 k = .inr (3, [.ref (cx_b G + n), .int 0, .null, .int 0, .int 0, .int 0, .int 0, .int 0, .int 0, .int 0, .int 0]) := by rw [eM2]; exact up_at rfl
  have S : sg_ok G n (n + 1) M2 s H locs (0 + 1) := by rw [eM2]; exact S
  refine lv_aload_n X.1.1 X.1.2.1 dX3_init_13 rfl (lv_at hl 0 rfl) ?_
  refine lv_sipush (v := 160) X.1.1 X.1.2.1 dX3_init_14 (by decide) ?_
  obtain ⟨M3, eM3⟩ : ∃ z, z = va_up M2 (n + 1) (.inl (cx_c G 0, 160, .inl (fun _ => 0))) := ⟨_, rfl⟩
  have f3_n : M3 n = .inl (cx_c G 0, 160, .inl (fun _ => 0)) := by rw [eM3, up_ne (by omega)]; exact f2_n
  have f3_k : M3 k = .inr (3, [.ref (cx_b G + n), .int 0, .null, .int 0, .int 0, .int 0, .int 0, .int 0, .int 0, .int 0, .int 0]) := by rw [eM3, up_ne (by omega)]; exact f2_k
  have f3_n1 : M3 (n + 1) = .inl (cx_c G 0, 160, .inl (fun _ => 0)) := by rw [eM3]; exact up_at rfl
  have S := S.to (M' := M3) (fun j hj => by rw [eM3, up_ne (by omega)])
  refine sg_newi (N := 160) X S f3_n1 (by decide) rfl (Nat.le_of_ble_eq_true rfl) (Nat.le_of_ble_eq_true rfl) (Nat.le_of_ble_eq_true rfl) ac_i dX3_init_17 (fun H S => ?_)
  refine sg_putF X hin2 S (by omega) f3_k (show vwCl[3]? = some (RX3, TX3, 11) from rfl) in_X3 tyX3_ok nmX3 2 (by decide) rfl lk_X3_15 rfl rfl rfl (Nat.le_of_ble_eq_true rfl) dX3_init_19 (fun H locs S => ?_)
  obtain ⟨M4, eM4⟩ : ∃ z, z = va_up M3 k (.inr (3, [.ref (cx_b G + n), .int 0, .ref (cx_b G + (n + 1)), .int 0, .int 0, .int 0, .int 0, .int 0, .int 0, .int 0, .int 0])) := ⟨_, rfl⟩
  have f4_n : M4 n = .inl (cx_c G 0, 160, .inl (fun _ => 0)) := by rw [eM4, up_ne (by omega)]; exact f3_n
  have f4_n1 : M4 (n + 1) = .inl (cx_c G 0, 160, .inl (fun _ => 0)) := by rw [eM4, up_ne (by omega)]; exact f3_n1
  have f4_k : M4 k = .inr (3, [.ref (cx_b G + n), .int 0, .ref (cx_b G + (n + 1)), .int 0, .int 0, .int 0, .int 0, .int 0, .int 0, .int 0, .int 0]) := by rw [eM4]; exact up_at rfl
  have S : sg_ok G n (n + 2) M4 s H locs (0 + 1 + 1) := by rw [eM4]; exact S
  exact sg_vret X S rfl (fun j _ => by rw [eM4, eM3, eM2, eM1]; rfl) dX3_init_22
def mk_X5 (G : cx_T) (M : Nat → va_E) (k n : Nat) : Nat → va_E := va_up (va_up (va_up (M) n (.inl (cx_c G 0, 40, .inl (fun _ => 0)))) k (.inr (5, [.ref (cx_b G + n), .int 0, .int 0]))) k (.inr (5, [.ref (cx_b G + n), .int (-1), .int 0]))
theorem mk_X5_old {G : cx_T} {M : Nat → va_E} {k n j : Nat} (h1 : j ≠ k) (h2 : j < n) : mk_X5 G M k n j = M j := by
  unfold mk_X5; rw [up_ne (by omega), up_ne (by omega), up_ne (by omega)]
theorem mk_X5_at {G : cx_T} {M : Nat → va_E} {k n : Nat} (hk : k < n) : mk_X5 G M k n k = .inr (5, [.ref (cx_b G + n), .int (-1), .int 0]) := by
  unfold mk_X5; first | exact up_at rfl | (rw [up_ne (by omega)]; exact up_at rfl)
set_option maxRecDepth 100000 in
set_option maxHeartbeats 4000000 in
theorem k_X5 {l : Launch} {G : cx_T} {M : Nat → va_E} {k n : Nat} (hk : k < n) (f0 : M k = .inr (5, [.null, .int 0, .int 0])) : cg_m l G n yX5_init cX5_init 1 none ({ frames := 1, cells := 1, slots := 40, locals := 12 }) [.ref (cx_b G + k)] M (cg_qv G (n + 1) (mk_X5 G M k n)) 1 40 := by
  refine cg_en (by decide) (Nat.le_of_ble_eq_true rfl) ?_
  intro p e s m args below meth c ls hin2 X S hl
  have hin2 : meth.name = "<init>" := hin2
  have X : cx_oi G p s m args meth c cX5_init 1 RX5 none := X
  have hl : lv_has ls 1 [(0, .ref (cx_b G + k))] := hl
  refine lv_aload_n X.1.1 X.1.2.1 dX5_init_0 rfl (lv_at hl 0 rfl) ?_
  refine sg_oi X ol_X5 oi_i oi_c hl.1 dX5_init_1 (Nat.le_of_ble_eq_true rfl) (Nat.le_of_ble_eq_true rfl) ?_
  refine lv_aload_n X.1.1 X.1.2.1 dX5_init_4 rfl (lv_at hl 0 rfl) ?_
  refine lv_bipush (v := 40) X.1.1 X.1.2.1 dX5_init_5 (by decide) ?_
  obtain ⟨M1, eM1⟩ : ∃ z, z = va_up M n (.inl (cx_c G 0, 40, .inl (fun _ => 0))) := ⟨_, rfl⟩
  have f1_k : M1 k = .inr (5, [.null, .int 0, .int 0]) := by rw [eM1, up_ne (by omega)]; exact f0
  have f1_n : M1 n = .inl (cx_c G 0, 40, .inl (fun _ => 0)) := by rw [eM1]; exact up_at rfl
  have S := S.to (M' := M1) (fun j hj => by rw [eM1, up_ne (by omega)])
  refine sg_newi (N := 40) X S f1_n (by decide) rfl (Nat.le_of_ble_eq_true rfl) (Nat.le_of_ble_eq_true rfl) (Nat.le_of_ble_eq_true rfl) ac_i dX5_init_7 (fun H S => ?_)
  refine sg_putF X hin2 S (by omega) f1_k (show vwCl[5]? = some (RX5, TX5, 3) from rfl) in_X5 tyX5_ok nmX5 0 (by decide) rfl lk_X5_9 rfl rfl rfl (Nat.le_of_ble_eq_true rfl) dX5_init_9 (fun H locs S => ?_)
  obtain ⟨M2, eM2⟩ : ∃ z, z = va_up M1 k (.inr (5, [.ref (cx_b G + n), .int 0, .int 0])) := ⟨_, rfl⟩
  have f2_n : M2 n = .inl (cx_c G 0, 40, .inl (fun _ => 0)) := by rw [eM2, up_ne (by omega)]; exact f1_n
  have f2_k : M2 k = .inr (5, [.ref (cx_b G + n), .int 0, .int 0]) := by rw [eM2]; exact up_at rfl
  have S : sg_ok G n (n + 1) M2 s H locs (0 + 1) := by rw [eM2]; exact S
  refine lv_aload_n X.1.1 X.1.2.1 dX5_init_12 rfl (lv_at hl 0 rfl) ?_
  refine lv_iconst (v := -1) X.1.1 X.1.2.1 dX5_init_13 (by decide) ?_
  refine sg_put X S (by omega) f2_k (show vwCl[5]? = some (RX5, TX5, 3) from rfl) in_X5 tyX5_ok nmX5 1 (by decide) lk_X5_15 rfl rfl rfl (Nat.le_of_ble_eq_true rfl) dX5_init_14 (fun H locs S => ?_)
  obtain ⟨M3, eM3⟩ : ∃ z, z = va_up M2 k (.inr (5, [.ref (cx_b G + n), .int (-1), .int 0])) := ⟨_, rfl⟩
  have f3_n : M3 n = .inl (cx_c G 0, 40, .inl (fun _ => 0)) := by rw [eM3, up_ne (by omega)]; exact f2_n
  have f3_k : M3 k = .inr (5, [.ref (cx_b G + n), .int (-1), .int 0]) := by rw [eM3]; exact up_at rfl
  have S : sg_ok G n (n + 1) M3 s H locs (0 + 1) := by rw [eM3]; exact S
  exact sg_vret X S rfl (fun j _ => by rw [eM3, eM2, eM1]; rfl) dX5_init_17
def mk_X0 (G : cx_T) (M : Nat → va_E) (k n : Nat) (h : Nat) : Nat → va_E := va_up (va_up (va_up (va_up (va_up (va_up (va_up (va_up (va_up (va_up (va_up (va_up (va_up (M) n (.inl (cx_c G 0, 6, .inl (fun _ => 0)))) k (.inr (0, [.null, .null, .ref (cx_b G + n), .null, .null, .null, .null, .int 0, .null, .int 0, .int 0, .int 0, .int 0, .int 0, .int 0, .int 0]))) (n + 1) (.inl (cx_c G 0, 8, .inl (fun _ => 0)))) k (.inr (0, [.null, .null, .ref (cx_b G + n), .ref (cx_b G + (n + 1)), .null, .null, .null, .int 0, .null, .int 0, .int 0, .int 0, .int 0, .int 0, .int 0, .int 0]))) (n + 2) (.inl (cx_c G 0, 8, .inl (fun _ => 0)))) k (.inr (0, [.null, .null, .ref (cx_b G + n), .ref (cx_b G + (n + 1)), .ref (cx_b G + (n + 2)), .null, .null, .int 0, .null, .int 0, .int 0, .int 0, .int 0, .int 0, .int 0, .int 0]))) (n + 3) (.inl (cx_c G 0, 8, .inl (fun _ => 0)))) k (.inr (0, [.null, .null, .ref (cx_b G + n), .ref (cx_b G + (n + 1)), .ref (cx_b G + (n + 2)), .ref (cx_b G + (n + 3)), .null, .int 0, .null, .int 0, .int 0, .int 0, .int 0, .int 0, .int 0, .int 0]))) (n + 4) (.inl (cx_c G 0, 7, .inl (fun _ => 0)))) k (.inr (0, [.null, .null, .ref (cx_b G + n), .ref (cx_b G + (n + 1)), .ref (cx_b G + (n + 2)), .ref (cx_b G + (n + 3)), .ref (cx_b G + (n + 4)), .int 0, .null, .int 0, .int 0, .int 0, .int 0, .int 0, .int 0, .int 0]))) (n + 5) (.inl (cx_c G 0, 7, .inl (fun _ => 0)))) k (.inr (0, [.null, .null, .ref (cx_b G + n), .ref (cx_b G + (n + 1)), .ref (cx_b G + (n + 2)), .ref (cx_b G + (n + 3)), .ref (cx_b G + (n + 4)), .int 0, .ref (cx_b G + (n + 5)), .int 0, .int 0, .int 0, .int 0, .int 0, .int 0, .int 0]))) k (.inr (0, [.ref (cx_b G + h), .null, .ref (cx_b G + n), .ref (cx_b G + (n + 1)), .ref (cx_b G + (n + 2)), .ref (cx_b G + (n + 3)), .ref (cx_b G + (n + 4)), .int 0, .ref (cx_b G + (n + 5)), .int 0, .int 0, .int 0, .int 0, .int 0, .int 0, .int 0]))
theorem mk_X0_old {G : cx_T} {M : Nat → va_E} {k n j : Nat} {h : Nat} (h1 : j ≠ k) (h2 : j < n) : mk_X0 G M k n h j = M j := by
  unfold mk_X0; rw [up_ne (by omega), up_ne (by omega), up_ne (by omega), up_ne (by omega), up_ne (by omega), up_ne (by omega), up_ne (by omega), up_ne (by omega), up_ne (by omega), up_ne (by omega), up_ne (by omega), up_ne (by omega), up_ne (by omega)]
theorem mk_X0_at {G : cx_T} {M : Nat → va_E} {k n : Nat} {h : Nat} (hk : k < n) : mk_X0 G M k n h k = .inr (0, [.ref (cx_b G + h), .null, .ref (cx_b G + n), .ref (cx_b G + (n + 1)), .ref (cx_b G + (n + 2)), .ref (cx_b G + (n + 3)), .ref (cx_b G + (n + 4)), .int 0, .ref (cx_b G + (n + 5)), .int 0, .int 0, .int 0, .int 0, .int 0, .int 0, .int 0]) := by
  unfold mk_X0; first | exact up_at rfl | (rw [up_ne (by omega)]; exact up_at rfl)
set_option maxRecDepth 100000 in
set_option maxHeartbeats 4000000 in
theorem k_X0 {l : Launch} {G : cx_T} {M : Nat → va_E} {k n h : Nat} (hk : k < n) (f0 : M k = .inr (0, [.null, .null, .null, .null, .null, .null, .null, .int 0, .null, .int 0, .int 0, .int 0, .int 0, .int 0, .int 0, .int 0])) : cg_m l G n yX0_init cX0_init 2 none ({ frames := 1, cells := 6, slots := 44, locals := 12 }) [.ref (cx_b G + k), .ref (cx_b G + h)] M (cg_qv G (n + 6) (mk_X0 G M k n h)) 6 44 := by
  refine cg_en (by decide) (Nat.le_of_ble_eq_true rfl) ?_
  intro p e s m args below meth c ls hin2 X S hl
  have hin2 : meth.name = "<init>" := hin2
  have X : cx_oi G p s m args meth c cX0_init 2 RX0 none := X
  have hl : lv_has ls 2 [(0, .ref (cx_b G + k)), (1, .ref (cx_b G + h))] := hl
  refine lv_aload_n X.1.1 X.1.2.1 dX0_init_0 rfl (lv_at hl 0 rfl) ?_
  refine sg_oi X ol_X0 oi_i oi_c hl.1 dX0_init_1 (Nat.le_of_ble_eq_true rfl) (Nat.le_of_ble_eq_true rfl) ?_
  refine lv_aload_n X.1.1 X.1.2.1 dX0_init_4 rfl (lv_at hl 0 rfl) ?_
  refine lv_bipush (v := 6) X.1.1 X.1.2.1 dX0_init_5 (by decide) ?_
  obtain ⟨M1, eM1⟩ : ∃ z, z = va_up M n (.inl (cx_c G 0, 6, .inl (fun _ => 0))) := ⟨_, rfl⟩
  have f1_k : M1 k = .inr (0, [.null, .null, .null, .null, .null, .null, .null, .int 0, .null, .int 0, .int 0, .int 0, .int 0, .int 0, .int 0, .int 0]) := by rw [eM1, up_ne (by omega)]; exact f0
  have f1_n : M1 n = .inl (cx_c G 0, 6, .inl (fun _ => 0)) := by rw [eM1]; exact up_at rfl
  have S := S.to (M' := M1) (fun j hj => by rw [eM1, up_ne (by omega)])
  refine sg_newi (N := 6) X S f1_n (by decide) rfl (Nat.le_of_ble_eq_true rfl) (Nat.le_of_ble_eq_true rfl) (Nat.le_of_ble_eq_true rfl) ac_i dX0_init_7 (fun H S => ?_)
  refine sg_putF X hin2 S (by omega) f1_k (show vwCl[0]? = some (RX0, TX0, 16) from rfl) in_X0 tyX0_ok nmX0 2 (by decide) rfl lk_X0_9 rfl rfl rfl (Nat.le_of_ble_eq_true rfl) dX0_init_9 (fun H locs S => ?_)
  obtain ⟨M2, eM2⟩ : ∃ z, z = va_up M1 k (.inr (0, [.null, .null, .ref (cx_b G + n), .null, .null, .null, .null, .int 0, .null, .int 0, .int 0, .int 0, .int 0, .int 0, .int 0, .int 0])) := ⟨_, rfl⟩
  have f2_n : M2 n = .inl (cx_c G 0, 6, .inl (fun _ => 0)) := by rw [eM2, up_ne (by omega)]; exact f1_n
  have f2_k : M2 k = .inr (0, [.null, .null, .ref (cx_b G + n), .null, .null, .null, .null, .int 0, .null, .int 0, .int 0, .int 0, .int 0, .int 0, .int 0, .int 0]) := by rw [eM2]; exact up_at rfl
  have S : sg_ok G n (n + 1) M2 s H locs (0 + 1) := by rw [eM2]; exact S
  refine lv_aload_n X.1.1 X.1.2.1 dX0_init_12 rfl (lv_at hl 0 rfl) ?_
  refine lv_bipush (v := 8) X.1.1 X.1.2.1 dX0_init_13 (by decide) ?_
  obtain ⟨M3, eM3⟩ : ∃ z, z = va_up M2 (n + 1) (.inl (cx_c G 0, 8, .inl (fun _ => 0))) := ⟨_, rfl⟩
  have f3_n : M3 n = .inl (cx_c G 0, 6, .inl (fun _ => 0)) := by rw [eM3, up_ne (by omega)]; exact f2_n
  have f3_k : M3 k = .inr (0, [.null, .null, .ref (cx_b G + n), .null, .null, .null, .null, .int 0, .null, .int 0, .int 0, .int 0, .int 0, .int 0, .int 0, .int 0]) := by rw [eM3, up_ne (by omega)]; exact f2_k
  have f3_n1 : M3 (n + 1) = .inl (cx_c G 0, 8, .inl (fun _ => 0)) := by rw [eM3]; exact up_at rfl
  have S := S.to (M' := M3) (fun j hj => by rw [eM3, up_ne (by omega)])
  refine sg_newi (N := 8) X S f3_n1 (by decide) rfl (Nat.le_of_ble_eq_true rfl) (Nat.le_of_ble_eq_true rfl) (Nat.le_of_ble_eq_true rfl) ac_i dX0_init_15 (fun H S => ?_)
  refine sg_putF X hin2 S (by omega) f3_k (show vwCl[0]? = some (RX0, TX0, 16) from rfl) in_X0 tyX0_ok nmX0 3 (by decide) rfl lk_X0_15 rfl rfl rfl (Nat.le_of_ble_eq_true rfl) dX0_init_17 (fun H locs S => ?_)
  obtain ⟨M4, eM4⟩ : ∃ z, z = va_up M3 k (.inr (0, [.null, .null, .ref (cx_b G + n), .ref (cx_b G + (n + 1)), .null, .null, .null, .int 0, .null, .int 0, .int 0, .int 0, .int 0, .int 0, .int 0, .int 0])) := ⟨_, rfl⟩
  have f4_n : M4 n = .inl (cx_c G 0, 6, .inl (fun _ => 0)) := by rw [eM4, up_ne (by omega)]; exact f3_n
  have f4_n1 : M4 (n + 1) = .inl (cx_c G 0, 8, .inl (fun _ => 0)) := by rw [eM4, up_ne (by omega)]; exact f3_n1
  have f4_k : M4 k = .inr (0, [.null, .null, .ref (cx_b G + n), .ref (cx_b G + (n + 1)), .null, .null, .null, .int 0, .null, .int 0, .int 0, .int 0, .int 0, .int 0, .int 0, .int 0]) := by rw [eM4]; exact up_at rfl
  have S : sg_ok G n (n + 2) M4 s H locs (0 + 1 + 1) := by rw [eM4]; exact S
  refine lv_aload_n X.1.1 X.1.2.1 dX0_init_20 rfl (lv_at hl 0 rfl) ?_
  refine lv_bipush (v := 8) X.1.1 X.1.2.1 dX0_init_21 (by decide) ?_
  obtain ⟨M5, eM5⟩ : ∃ z, z = va_up M4 (n + 2) (.inl (cx_c G 0, 8, .inl (fun _ => 0))) := ⟨_, rfl⟩
  have f5_n : M5 n = .inl (cx_c G 0, 6, .inl (fun _ => 0)) := by rw [eM5, up_ne (by omega)]; exact f4_n
  have f5_n1 : M5 (n + 1) = .inl (cx_c G 0, 8, .inl (fun _ => 0)) := by rw [eM5, up_ne (by omega)]; exact f4_n1
  have f5_k : M5 k = .inr (0, [.null, .null, .ref (cx_b G + n), .ref (cx_b G + (n + 1)), .null, .null, .null, .int 0, .null, .int 0, .int 0, .int 0, .int 0, .int 0, .int 0, .int 0]) := by rw [eM5, up_ne (by omega)]; exact f4_k
  have f5_n2 : M5 (n + 2) = .inl (cx_c G 0, 8, .inl (fun _ => 0)) := by rw [eM5]; exact up_at rfl
  have S := S.to (M' := M5) (fun j hj => by rw [eM5, up_ne (by omega)])
  refine sg_newi (N := 8) X S f5_n2 (by decide) rfl (Nat.le_of_ble_eq_true rfl) (Nat.le_of_ble_eq_true rfl) (Nat.le_of_ble_eq_true rfl) ac_i dX0_init_23 (fun H S => ?_)
  refine sg_putF X hin2 S (by omega) f5_k (show vwCl[0]? = some (RX0, TX0, 16) from rfl) in_X0 tyX0_ok nmX0 4 (by decide) rfl lk_X0_18 rfl rfl rfl (Nat.le_of_ble_eq_true rfl) dX0_init_25 (fun H locs S => ?_)
  obtain ⟨M6, eM6⟩ : ∃ z, z = va_up M5 k (.inr (0, [.null, .null, .ref (cx_b G + n), .ref (cx_b G + (n + 1)), .ref (cx_b G + (n + 2)), .null, .null, .int 0, .null, .int 0, .int 0, .int 0, .int 0, .int 0, .int 0, .int 0])) := ⟨_, rfl⟩
  have f6_n : M6 n = .inl (cx_c G 0, 6, .inl (fun _ => 0)) := by rw [eM6, up_ne (by omega)]; exact f5_n
  have f6_n1 : M6 (n + 1) = .inl (cx_c G 0, 8, .inl (fun _ => 0)) := by rw [eM6, up_ne (by omega)]; exact f5_n1
  have f6_n2 : M6 (n + 2) = .inl (cx_c G 0, 8, .inl (fun _ => 0)) := by rw [eM6, up_ne (by omega)]; exact f5_n2
  have f6_k : M6 k = .inr (0, [.null, .null, .ref (cx_b G + n), .ref (cx_b G + (n + 1)), .ref (cx_b G + (n + 2)), .null, .null, .int 0, .null, .int 0, .int 0, .int 0, .int 0, .int 0, .int 0, .int 0]) := by rw [eM6]; exact up_at rfl
  have S : sg_ok G n (n + 3) M6 s H locs (0 + 1 + 1 + 1) := by rw [eM6]; exact S
  refine lv_aload_n X.1.1 X.1.2.1 dX0_init_28 rfl (lv_at hl 0 rfl) ?_
  refine lv_bipush (v := 8) X.1.1 X.1.2.1 dX0_init_29 (by decide) ?_
  obtain ⟨M7, eM7⟩ : ∃ z, z = va_up M6 (n + 3) (.inl (cx_c G 0, 8, .inl (fun _ => 0))) := ⟨_, rfl⟩
  have f7_n : M7 n = .inl (cx_c G 0, 6, .inl (fun _ => 0)) := by rw [eM7, up_ne (by omega)]; exact f6_n
  have f7_n1 : M7 (n + 1) = .inl (cx_c G 0, 8, .inl (fun _ => 0)) := by rw [eM7, up_ne (by omega)]; exact f6_n1
  have f7_n2 : M7 (n + 2) = .inl (cx_c G 0, 8, .inl (fun _ => 0)) := by rw [eM7, up_ne (by omega)]; exact f6_n2
  have f7_k : M7 k = .inr (0, [.null, .null, .ref (cx_b G + n), .ref (cx_b G + (n + 1)), .ref (cx_b G + (n + 2)), .null, .null, .int 0, .null, .int 0, .int 0, .int 0, .int 0, .int 0, .int 0, .int 0]) := by rw [eM7, up_ne (by omega)]; exact f6_k
  have f7_n3 : M7 (n + 3) = .inl (cx_c G 0, 8, .inl (fun _ => 0)) := by rw [eM7]; exact up_at rfl
  have S := S.to (M' := M7) (fun j hj => by rw [eM7, up_ne (by omega)])
  refine sg_newi (N := 8) X S f7_n3 (by decide) rfl (Nat.le_of_ble_eq_true rfl) (Nat.le_of_ble_eq_true rfl) (Nat.le_of_ble_eq_true rfl) ac_i dX0_init_31 (fun H S => ?_)
  refine sg_putF X hin2 S (by omega) f7_k (show vwCl[0]? = some (RX0, TX0, 16) from rfl) in_X0 tyX0_ok nmX0 5 (by decide) rfl lk_X0_21 rfl rfl rfl (Nat.le_of_ble_eq_true rfl) dX0_init_33 (fun H locs S => ?_)
  obtain ⟨M8, eM8⟩ : ∃ z, z = va_up M7 k (.inr (0, [.null, .null, .ref (cx_b G + n), .ref (cx_b G + (n + 1)), .ref (cx_b G + (n + 2)), .ref (cx_b G + (n + 3)), .null, .int 0, .null, .int 0, .int 0, .int 0, .int 0, .int 0, .int 0, .int 0])) := ⟨_, rfl⟩
  have f8_n : M8 n = .inl (cx_c G 0, 6, .inl (fun _ => 0)) := by rw [eM8, up_ne (by omega)]; exact f7_n
  have f8_n1 : M8 (n + 1) = .inl (cx_c G 0, 8, .inl (fun _ => 0)) := by rw [eM8, up_ne (by omega)]; exact f7_n1
  have f8_n2 : M8 (n + 2) = .inl (cx_c G 0, 8, .inl (fun _ => 0)) := by rw [eM8, up_ne (by omega)]; exact f7_n2
  have f8_n3 : M8 (n + 3) = .inl (cx_c G 0, 8, .inl (fun _ => 0)) := by rw [eM8, up_ne (by omega)]; exact f7_n3
  have f8_k : M8 k = .inr (0, [.null, .null, .ref (cx_b G + n), .ref (cx_b G + (n + 1)), .ref (cx_b G + (n + 2)), .ref (cx_b G + (n + 3)), .null, .int 0, .null, .int 0, .int 0, .int 0, .int 0, .int 0, .int 0, .int 0]) := by rw [eM8]; exact up_at rfl
  have S : sg_ok G n (n + 4) M8 s H locs (0 + 1 + 1 + 1 + 1) := by rw [eM8]; exact S
  refine lv_aload_n X.1.1 X.1.2.1 dX0_init_36 rfl (lv_at hl 0 rfl) ?_
  refine lv_bipush (v := 7) X.1.1 X.1.2.1 dX0_init_37 (by decide) ?_
  obtain ⟨M9, eM9⟩ : ∃ z, z = va_up M8 (n + 4) (.inl (cx_c G 0, 7, .inl (fun _ => 0))) := ⟨_, rfl⟩
  have f9_n : M9 n = .inl (cx_c G 0, 6, .inl (fun _ => 0)) := by rw [eM9, up_ne (by omega)]; exact f8_n
  have f9_n1 : M9 (n + 1) = .inl (cx_c G 0, 8, .inl (fun _ => 0)) := by rw [eM9, up_ne (by omega)]; exact f8_n1
  have f9_n2 : M9 (n + 2) = .inl (cx_c G 0, 8, .inl (fun _ => 0)) := by rw [eM9, up_ne (by omega)]; exact f8_n2
  have f9_n3 : M9 (n + 3) = .inl (cx_c G 0, 8, .inl (fun _ => 0)) := by rw [eM9, up_ne (by omega)]; exact f8_n3
  have f9_k : M9 k = .inr (0, [.null, .null, .ref (cx_b G + n), .ref (cx_b G + (n + 1)), .ref (cx_b G + (n + 2)), .ref (cx_b G + (n + 3)), .null, .int 0, .null, .int 0, .int 0, .int 0, .int 0, .int 0, .int 0, .int 0]) := by rw [eM9, up_ne (by omega)]; exact f8_k
  have f9_n4 : M9 (n + 4) = .inl (cx_c G 0, 7, .inl (fun _ => 0)) := by rw [eM9]; exact up_at rfl
  have S := S.to (M' := M9) (fun j hj => by rw [eM9, up_ne (by omega)])
  refine sg_newi (N := 7) X S f9_n4 (by decide) rfl (Nat.le_of_ble_eq_true rfl) (Nat.le_of_ble_eq_true rfl) (Nat.le_of_ble_eq_true rfl) ac_i dX0_init_39 (fun H S => ?_)
  refine sg_putF X hin2 S (by omega) f9_k (show vwCl[0]? = some (RX0, TX0, 16) from rfl) in_X0 tyX0_ok nmX0 6 (by decide) rfl lk_X0_24 rfl rfl rfl (Nat.le_of_ble_eq_true rfl) dX0_init_41 (fun H locs S => ?_)
  obtain ⟨M10, eM10⟩ : ∃ z, z = va_up M9 k (.inr (0, [.null, .null, .ref (cx_b G + n), .ref (cx_b G + (n + 1)), .ref (cx_b G + (n + 2)), .ref (cx_b G + (n + 3)), .ref (cx_b G + (n + 4)), .int 0, .null, .int 0, .int 0, .int 0, .int 0, .int 0, .int 0, .int 0])) := ⟨_, rfl⟩
  have f10_n : M10 n = .inl (cx_c G 0, 6, .inl (fun _ => 0)) := by rw [eM10, up_ne (by omega)]; exact f9_n
  have f10_n1 : M10 (n + 1) = .inl (cx_c G 0, 8, .inl (fun _ => 0)) := by rw [eM10, up_ne (by omega)]; exact f9_n1
  have f10_n2 : M10 (n + 2) = .inl (cx_c G 0, 8, .inl (fun _ => 0)) := by rw [eM10, up_ne (by omega)]; exact f9_n2
  have f10_n3 : M10 (n + 3) = .inl (cx_c G 0, 8, .inl (fun _ => 0)) := by rw [eM10, up_ne (by omega)]; exact f9_n3
  have f10_n4 : M10 (n + 4) = .inl (cx_c G 0, 7, .inl (fun _ => 0)) := by rw [eM10, up_ne (by omega)]; exact f9_n4
  have f10_k : M10 k = .inr (0, [.null, .null, .ref (cx_b G + n), .ref (cx_b G + (n + 1)), .ref (cx_b G + (n + 2)), .ref (cx_b G + (n + 3)), .ref (cx_b G + (n + 4)), .int 0, .null, .int 0, .int 0, .int 0, .int 0, .int 0, .int 0, .int 0]) := by rw [eM10]; exact up_at rfl
  have S : sg_ok G n (n + 5) M10 s H locs (0 + 1 + 1 + 1 + 1 + 1) := by rw [eM10]; exact S
  refine lv_aload_n X.1.1 X.1.2.1 dX0_init_44 rfl (lv_at hl 0 rfl) ?_
  refine lv_bipush (v := 7) X.1.1 X.1.2.1 dX0_init_45 (by decide) ?_
  obtain ⟨M11, eM11⟩ : ∃ z, z = va_up M10 (n + 5) (.inl (cx_c G 0, 7, .inl (fun _ => 0))) := ⟨_, rfl⟩
  have f11_n : M11 n = .inl (cx_c G 0, 6, .inl (fun _ => 0)) := by rw [eM11, up_ne (by omega)]; exact f10_n
  have f11_n1 : M11 (n + 1) = .inl (cx_c G 0, 8, .inl (fun _ => 0)) := by rw [eM11, up_ne (by omega)]; exact f10_n1
  have f11_n2 : M11 (n + 2) = .inl (cx_c G 0, 8, .inl (fun _ => 0)) := by rw [eM11, up_ne (by omega)]; exact f10_n2
  have f11_n3 : M11 (n + 3) = .inl (cx_c G 0, 8, .inl (fun _ => 0)) := by rw [eM11, up_ne (by omega)]; exact f10_n3
  have f11_n4 : M11 (n + 4) = .inl (cx_c G 0, 7, .inl (fun _ => 0)) := by rw [eM11, up_ne (by omega)]; exact f10_n4
  have f11_k : M11 k = .inr (0, [.null, .null, .ref (cx_b G + n), .ref (cx_b G + (n + 1)), .ref (cx_b G + (n + 2)), .ref (cx_b G + (n + 3)), .ref (cx_b G + (n + 4)), .int 0, .null, .int 0, .int 0, .int 0, .int 0, .int 0, .int 0, .int 0]) := by rw [eM11, up_ne (by omega)]; exact f10_k
  have f11_n5 : M11 (n + 5) = .inl (cx_c G 0, 7, .inl (fun _ => 0)) := by rw [eM11]; exact up_at rfl
  have S := S.to (M' := M11) (fun j hj => by rw [eM11, up_ne (by omega)])
  refine sg_newi (N := 7) X S f11_n5 (by decide) rfl (Nat.le_of_ble_eq_true rfl) (Nat.le_of_ble_eq_true rfl) (Nat.le_of_ble_eq_true rfl) ac_i dX0_init_47 (fun H S => ?_)
  refine sg_putF X hin2 S (by omega) f11_k (show vwCl[0]? = some (RX0, TX0, 16) from rfl) in_X0 tyX0_ok nmX0 8 (by decide) rfl lk_X0_27 rfl rfl rfl (Nat.le_of_ble_eq_true rfl) dX0_init_49 (fun H locs S => ?_)
  obtain ⟨M12, eM12⟩ : ∃ z, z = va_up M11 k (.inr (0, [.null, .null, .ref (cx_b G + n), .ref (cx_b G + (n + 1)), .ref (cx_b G + (n + 2)), .ref (cx_b G + (n + 3)), .ref (cx_b G + (n + 4)), .int 0, .ref (cx_b G + (n + 5)), .int 0, .int 0, .int 0, .int 0, .int 0, .int 0, .int 0])) := ⟨_, rfl⟩
  have f12_n : M12 n = .inl (cx_c G 0, 6, .inl (fun _ => 0)) := by rw [eM12, up_ne (by omega)]; exact f11_n
  have f12_n1 : M12 (n + 1) = .inl (cx_c G 0, 8, .inl (fun _ => 0)) := by rw [eM12, up_ne (by omega)]; exact f11_n1
  have f12_n2 : M12 (n + 2) = .inl (cx_c G 0, 8, .inl (fun _ => 0)) := by rw [eM12, up_ne (by omega)]; exact f11_n2
  have f12_n3 : M12 (n + 3) = .inl (cx_c G 0, 8, .inl (fun _ => 0)) := by rw [eM12, up_ne (by omega)]; exact f11_n3
  have f12_n4 : M12 (n + 4) = .inl (cx_c G 0, 7, .inl (fun _ => 0)) := by rw [eM12, up_ne (by omega)]; exact f11_n4
  have f12_n5 : M12 (n + 5) = .inl (cx_c G 0, 7, .inl (fun _ => 0)) := by rw [eM12, up_ne (by omega)]; exact f11_n5
  have f12_k : M12 k = .inr (0, [.null, .null, .ref (cx_b G + n), .ref (cx_b G + (n + 1)), .ref (cx_b G + (n + 2)), .ref (cx_b G + (n + 3)), .ref (cx_b G + (n + 4)), .int 0, .ref (cx_b G + (n + 5)), .int 0, .int 0, .int 0, .int 0, .int 0, .int 0, .int 0]) := by rw [eM12]; exact up_at rfl
  have S : sg_ok G n (n + 6) M12 s H locs (0 + 1 + 1 + 1 + 1 + 1 + 1) := by rw [eM12]; exact S
  refine lv_aload_n X.1.1 X.1.2.1 dX0_init_52 rfl (lv_at hl 0 rfl) ?_
  refine lv_aload_n X.1.1 X.1.2.1 dX0_init_53 rfl (lv_at hl 1 rfl) ?_
  refine sg_putF X hin2 S (by omega) f12_k (show vwCl[0]? = some (RX0, TX0, 16) from rfl) in_X0 tyX0_ok nmX0 0 (by decide) rfl lk_X0_30 rfl rfl rfl (Nat.le_of_ble_eq_true rfl) dX0_init_54 (fun H locs S => ?_)
  obtain ⟨M13, eM13⟩ : ∃ z, z = va_up M12 k (.inr (0, [.ref (cx_b G + h), .null, .ref (cx_b G + n), .ref (cx_b G + (n + 1)), .ref (cx_b G + (n + 2)), .ref (cx_b G + (n + 3)), .ref (cx_b G + (n + 4)), .int 0, .ref (cx_b G + (n + 5)), .int 0, .int 0, .int 0, .int 0, .int 0, .int 0, .int 0])) := ⟨_, rfl⟩
  have f13_n : M13 n = .inl (cx_c G 0, 6, .inl (fun _ => 0)) := by rw [eM13, up_ne (by omega)]; exact f12_n
  have f13_n1 : M13 (n + 1) = .inl (cx_c G 0, 8, .inl (fun _ => 0)) := by rw [eM13, up_ne (by omega)]; exact f12_n1
  have f13_n2 : M13 (n + 2) = .inl (cx_c G 0, 8, .inl (fun _ => 0)) := by rw [eM13, up_ne (by omega)]; exact f12_n2
  have f13_n3 : M13 (n + 3) = .inl (cx_c G 0, 8, .inl (fun _ => 0)) := by rw [eM13, up_ne (by omega)]; exact f12_n3
  have f13_n4 : M13 (n + 4) = .inl (cx_c G 0, 7, .inl (fun _ => 0)) := by rw [eM13, up_ne (by omega)]; exact f12_n4
  have f13_n5 : M13 (n + 5) = .inl (cx_c G 0, 7, .inl (fun _ => 0)) := by rw [eM13, up_ne (by omega)]; exact f12_n5
  have f13_k : M13 k = .inr (0, [.ref (cx_b G + h), .null, .ref (cx_b G + n), .ref (cx_b G + (n + 1)), .ref (cx_b G + (n + 2)), .ref (cx_b G + (n + 3)), .ref (cx_b G + (n + 4)), .int 0, .ref (cx_b G + (n + 5)), .int 0, .int 0, .int 0, .int 0, .int 0, .int 0, .int 0]) := by rw [eM13]; exact up_at rfl
  have S : sg_ok G n (n + 6) M13 s H locs (0 + 1 + 1 + 1 + 1 + 1 + 1) := by rw [eM13]; exact S
  exact sg_vret X S rfl (fun j _ => by rw [eM13, eM12, eM11, eM10, eM9, eM8, eM7, eM6, eM5, eM4, eM3, eM2, eM1]; rfl) dX0_init_57
theorem up_arr (f : Nat → Option Nat) (q : Nat) : va_up (fun i => if i < q then f i else none) q (f q) = fun i => if i < q + 1 then f i else none := by
  funext i
  unfold va_up
  by_cases h : i = q
  · subst h; rw [if_pos rfl, if_pos (Nat.lt_succ_self _)]
  · rw [if_neg h]
    show (if i < q then f i else none) = _
    by_cases h2 : i < q
    · rw [if_pos h2, if_pos (by omega)]
    · rw [if_neg h2, if_neg (by omega)]
theorem ix_nI {q N : Nat} (h : q < N) (hN : N < 2 ^ 31) : ix_in (nI q) N = true := decide_eq_true (vp_in_nI h hN)
def hs_a (G : cx_T) (n p : Nat) : Nat → Option Nat := fun i => if i < p then some (cx_b G + (n + 2 + i)) else none
def hs_s (G : cx_T) (n q : Nat) : Nat → Option Nat := fun i => if i < q then some (cx_b G + (n + 10 + i)) else none
def hs_M (G : cx_T) (M : Nat → va_E) (k n p q : Nat) : Nat → va_E := fun j => if j = k then .inr (1, [.ref (cx_b G + n), .ref (cx_b G + (n + 1)), .int 0, .int 0, .int 0, .int 60, .int 0, .int 0]) else if j < n then M j else if j = n then .inl (cx_c G 2, 8, .inr (.inr (.inr (.inr (hs_a G n p))))) else if j = n + 1 then .inl (cx_c G 3, 7, .inr (.inr (.inr (.inr (hs_s G n q))))) else if j < n + 10 then .inr (2, [.int 0, .int 0]) else .inr (6, [.int 0, .int 0, .int 0, .int 0])
theorem hs_k {G : cx_T} {M : Nat → va_E} {k n p q : Nat} : hs_M G M k n p q k = .inr (1, [.ref (cx_b G + n), .ref (cx_b G + (n + 1)), .int 0, .int 0, .int 0, .int 60, .int 0, .int 0]) := if_pos rfl
theorem hs_old {G : cx_T} {M : Nat → va_E} {k n p q j : Nat} (h1 : j ≠ k) (h2 : j < n) : hs_M G M k n p q j = M j := by unfold hs_M; rw [if_neg h1, if_pos h2]
theorem hs_n {G : cx_T} {M : Nat → va_E} {k n p q : Nat} (hk : k < n) : hs_M G M k n p q n = .inl (cx_c G 2, 8, .inr (.inr (.inr (.inr (hs_a G n p))))) := by unfold hs_M; rw [if_neg (by omega), if_neg (by omega), if_pos rfl]
theorem hs_n1 {G : cx_T} {M : Nat → va_E} {k n p q : Nat} (hk : k < n) : hs_M G M k n p q (n + 1) = .inl (cx_c G 3, 7, .inr (.inr (.inr (.inr (hs_s G n q))))) := by unfold hs_M; rw [if_neg (by omega), if_neg (by omega), if_neg (by omega), if_pos rfl]
theorem hs_p {G : cx_T} {M : Nat → va_E} {k n p q j : Nat} (hk : k < n) (h1 : n + 2 ≤ j) (h2 : j < n + 10) : hs_M G M k n p q j = .inr (2, [.int 0, .int 0]) := by unfold hs_M; rw [if_neg (by omega), if_neg (by omega), if_neg (by omega), if_neg (by omega), if_pos h2]
theorem hs_q {G : cx_T} {M : Nat → va_E} {k n p q j : Nat} (hk : k < n) (h1 : n + 10 ≤ j) : hs_M G M k n p q j = .inr (6, [.int 0, .int 0, .int 0, .int 0]) := by unfold hs_M; rw [if_neg (by omega), if_neg (by omega), if_neg (by omega), if_neg (by omega), if_neg (by omega)]
theorem hs_upq {G : cx_T} {M : Nat → va_E} {k n p q : Nat} (hk : k < n) (j : Nat) : va_up (hs_M G M k n p q) (n + 1) (.inl (cx_c G 3, 7, .inr (.inr (.inr (.inr (va_up (hs_s G n q) q (some (cx_b G + (n + 10 + q))))))))) j = hs_M G M k n p (q + 1) j := by
  by_cases hj : j = n + 1
  · subst hj; rw [up_at rfl, hs_n1 hk]
    have := up_arr (fun i => some (cx_b G + (n + 10 + i))) q
    unfold hs_s
    rw [this]
  · rw [up_ne hj]; unfold hs_M; simp only [if_neg hj]
theorem hs_upp {G : cx_T} {M : Nat → va_E} {k n p q : Nat} (hk : k < n) (j : Nat) : va_up (hs_M G M k n p q) n (.inl (cx_c G 2, 8, .inr (.inr (.inr (.inr (va_up (hs_a G n p) p (some (cx_b G + (n + 2 + p))))))))) j = hs_M G M k n (p + 1) q j := by
  by_cases hj : j = n
  · subst hj; rw [up_at rfl, hs_n hk]
    have := up_arr (fun i => some (cx_b G + (j + 2 + i))) p
    unfold hs_a
    rw [this]
  · rw [up_ne hj]; unfold hs_M; simp only [if_neg hj]
set_option maxRecDepth 100000 in
set_option maxHeartbeats 4000000 in
theorem kw_X1_57 {l : Launch} {G : cx_T} {p : Program} {e : Env} {s : State} {m : MethodId} {args : Array Value} {below : List Frame} {meth : Method} {c : Code} {M : Nat → va_E} (X : cx_oi G p s m args meth c cX1_init 2 RX1 none) {k n : Nat} (hk : k < n) : ∀ (cnt q : Nat) {x : Int32} {H : Heap} {locs : List Loc} {ls : Array Slot}, 7 ≤ q + cnt → q ≤ 7 → x = nI q → sg_ok G n (n + 10 + q) (hs_M G M k n 8 q) s H locs (10 + q) → lv_has ls 2 [(1, .int x), (0, .ref (cx_b G + k))] → W p l e ({ frames := 2, cells := 17, slots := 59, locals := 32 }) s m args below meth c H locs (10 + q) (31 + 4 * q) (MQ below (cg_qv G (n + 17) (hs_M G M k n 8 7)) args s 17 59 (cx_A G)) (F0 m 57 ls []) := by
  intro cnt
  induction cnt with
  | zero =>
    intro q x H locs ls h1 h2 ex S hl
    refine lv_iload_n X.1.1 X.1.2.1 dX1_init_57 rfl (lv_at hl 0 rfl) ?_
    refine lv_bipush (v := 7) X.1.1 X.1.2.1 dX1_init_58 (by decide) ?_
    refine lv_icmp_ge (tgt := 82) X.1.1 X.1.2.1 dX1_init_60 (by decide) (fun cq => ?_) (fun cq => ?_)
    · have hj : q = 7 := by
        rcases Nat.lt_or_ge q 7 with q9 | q9
        · exact absurd (show nI 7 ≤ nI q by rw [← ex]; exact cq) (nI_ge q9 (by decide))
        · omega
      subst hj
      exact sg_vret X S (by omega) (fun _ _ => rfl) dX1_init_82
    · exact absurd (show nI 7 ≤ x by rw [ex]; exact nI_le (by omega) (by omega)) cq
  | succ cnt ih =>
    intro q x H locs ls h1 h2 ex S hl
    refine lv_iload_n X.1.1 X.1.2.1 dX1_init_57 rfl (lv_at hl 0 rfl) ?_
    refine lv_bipush (v := 7) X.1.1 X.1.2.1 dX1_init_58 (by decide) ?_
    refine lv_icmp_ge (tgt := 82) X.1.1 X.1.2.1 dX1_init_60 (by decide) (fun cq => ?_) (fun cq => ?_)
    · have hj : q = 7 := by
        rcases Nat.lt_or_ge q 7 with q9 | q9
        · exact absurd (show nI 7 ≤ nI q by rw [← ex]; exact cq) (nI_ge q9 (by decide))
        · omega
      subst hj
      exact sg_vret X S (by omega) (fun _ _ => rfl) dX1_init_82
    · have hj : q < 7 := by
        rcases Nat.lt_or_ge q 7 with q9 | q9
        · exact q9
        · exact absurd (show nI 7 ≤ x by rw [ex]; exact nI_le q9 (by omega)) cq
      refine lv_aload_n X.1.1 X.1.2.1 dX1_init_63 rfl (lv_at hl 1 rfl) ?_
      refine sg_get X S (by omega) hs_k (show vwCl[1]? = some (RX1, TX1, 8) from rfl) in_X1 1 (by decide) lk_X1_19 rfl dX1_init_64 ?_
      refine lv_iload_n X.1.1 X.1.2.1 dX1_init_67 rfl (lv_at hl 0 rfl) ?_
      refine sg_new X S (hs_q hk (by omega)) (show vwCl[6]? = some (RX6, TX6, 4) from rfl) in_X6 tyX6 tyX6_ok kl_X1_17 nu_X6.1 nu_X6.2 df_X6 (by show 10 + q + 1 ≤ 17; omega) (by show 31 + 4 * q + 4 ≤ 59; omega) dX1_init_68 (fun H S => ?_)
      refine lv_dup X.1.1 X.1.2.1 dX1_init_71 rfl ?_
      refine sg_callIN (n1 := n + 10 + q + 1) (M1 := hs_M G M k n 8 q) X S (k_X6 (k := n + 10 + q) (n := n + 10 + q + 1) (by omega) (hs_q hk (by omega))) rfl il_X1_28 ii_X6_init.1 ii_X6_init.2 cw_X6_init rfl iy_X6_init ⟨rfl, rfl⟩ ⟨Nat.le_of_ble_eq_true rfl, Nat.le_of_ble_eq_true rfl⟩ rfl (rest := [.ref (cx_b G + (n + 10 + q)), .int x, .ref (cx_b G + (n + 1))]) rfl hl.1 (Nat.le_of_ble_eq_true rfl) dX1_init_72 ⟨by show 10 + q + 1 + 0 ≤ 17; omega, by show 31 + 4 * q + 4 + 0 ≤ 59; omega⟩ (fun H locs S => ?_)
      refine sg_astq X S (by omega) (by omega) (hs_n1 hk) (r := (RX6, TX6, 4)) rfl (hs_q hk (by omega)) (show vwCl[6]? = some (RX6, TX6, 4) from rfl) (by rw [ex]; exact ix_nI hj (by decide)) dX1_init_75 (fun H locs S => ?_)
      rw [ex, nI_clamp (by omega)] at S
      have S := S.to (M' := hs_M G M k n 8 (q + 1)) (fun j _ => hs_upq hk j)
      obtain ⟨x2, ex2⟩ : ∃ y : Int32, y = x + 1 := ⟨_, rfl⟩
      refine lv_iinc (v := x2) (lv' := [(1, .int x2), (0, .ref (cx_b G + k))]) X.1.1 X.1.2.1 dX1_init_76 hl (k := 0) rfl (by rw [ex2]; rfl) (by decide) rfl (fun ls hl => ?_)
      refine lv_goto (tgt := 57) X.1.1 X.1.2.1 dX1_init_79 (by decide) ?_
      refine W.widen (k := 10 + (q + 1)) (n := 31 + 4 * (q + 1)) (by omega) (by omega) ?_
      exact ih (q + 1) (by omega) hj (by rw [ex2, ex]; exact nI_1 q) ⟨S.1, S.2.1, S.2.2.1, by have := S.2.2.2; omega⟩ hl
set_option maxRecDepth 100000 in
set_option maxHeartbeats 4000000 in
theorem kw_X1_30 {l : Launch} {G : cx_T} {p : Program} {e : Env} {s : State} {m : MethodId} {args : Array Value} {below : List Frame} {meth : Method} {c : Code} {M : Nat → va_E} (X : cx_oi G p s m args meth c cX1_init 2 RX1 none) {k n : Nat} (hk : k < n) : ∀ (cnt q : Nat) {x : Int32} {H : Heap} {locs : List Loc} {ls : Array Slot}, 8 ≤ q + cnt → q ≤ 8 → x = nI q → sg_ok G n (n + 2 + q) (hs_M G M k n q 0) s H locs (2 + q) → lv_has ls 2 [(1, .int x), (0, .ref (cx_b G + k))] → W p l e ({ frames := 2, cells := 17, slots := 59, locals := 32 }) s m args below meth c H locs (2 + q) (15 + 2 * q) (MQ below (cg_qv G (n + 17) (hs_M G M k n 8 7)) args s 17 59 (cx_A G)) (F0 m 30 ls []) := by
  intro cnt
  induction cnt with
  | zero =>
    intro q x H locs ls h1 h2 ex S hl
    refine lv_iload_n X.1.1 X.1.2.1 dX1_init_30 rfl (lv_at hl 0 rfl) ?_
    refine lv_bipush (v := 8) X.1.1 X.1.2.1 dX1_init_31 (by decide) ?_
    refine lv_icmp_ge (tgt := 55) X.1.1 X.1.2.1 dX1_init_33 (by decide) (fun cq => ?_) (fun cq => ?_)
    · have hj : q = 8 := by
        rcases Nat.lt_or_ge q 8 with q9 | q9
        · exact absurd (show nI 8 ≤ nI q by rw [← ex]; exact cq) (nI_ge q9 (by decide))
        · omega
      subst hj
      refine lv_iconst (v := 0) X.1.1 X.1.2.1 dX1_init_55 (by decide) ?_
      refine lv_istore_n (lv' := [(1, .int 0), (0, .ref (cx_b G + k))]) X.1.1 X.1.2.1 dX1_init_56 rfl hl (by decide) rfl (fun ls hl => ?_)
      refine W.widen (k := 10 + 0) (n := 31 + 4 * 0) (by omega) (by omega) ?_
      exact kw_X1_57 X hk 7 0 (by omega) (by omega) nI_0.symm ⟨S.1, S.2.1, S.2.2.1, by have := S.2.2.2; omega⟩ hl
    · exact absurd (show nI 8 ≤ x by rw [ex]; exact nI_le (by omega) (by omega)) cq
  | succ cnt ih =>
    intro q x H locs ls h1 h2 ex S hl
    refine lv_iload_n X.1.1 X.1.2.1 dX1_init_30 rfl (lv_at hl 0 rfl) ?_
    refine lv_bipush (v := 8) X.1.1 X.1.2.1 dX1_init_31 (by decide) ?_
    refine lv_icmp_ge (tgt := 55) X.1.1 X.1.2.1 dX1_init_33 (by decide) (fun cq => ?_) (fun cq => ?_)
    · have hj : q = 8 := by
        rcases Nat.lt_or_ge q 8 with q9 | q9
        · exact absurd (show nI 8 ≤ nI q by rw [← ex]; exact cq) (nI_ge q9 (by decide))
        · omega
      subst hj
      refine lv_iconst (v := 0) X.1.1 X.1.2.1 dX1_init_55 (by decide) ?_
      refine lv_istore_n (lv' := [(1, .int 0), (0, .ref (cx_b G + k))]) X.1.1 X.1.2.1 dX1_init_56 rfl hl (by decide) rfl (fun ls hl => ?_)
      refine W.widen (k := 10 + 0) (n := 31 + 4 * 0) (by omega) (by omega) ?_
      exact kw_X1_57 X hk 7 0 (by omega) (by omega) nI_0.symm ⟨S.1, S.2.1, S.2.2.1, by have := S.2.2.2; omega⟩ hl
    · have hj : q < 8 := by
        rcases Nat.lt_or_ge q 8 with q9 | q9
        · exact q9
        · exact absurd (show nI 8 ≤ x by rw [ex]; exact nI_le q9 (by omega)) cq
      refine lv_aload_n X.1.1 X.1.2.1 dX1_init_36 rfl (lv_at hl 1 rfl) ?_
      refine sg_get X S (by omega) hs_k (show vwCl[1]? = some (RX1, TX1, 8) from rfl) in_X1 0 (by decide) lk_X1_11 rfl dX1_init_37 ?_
      refine lv_iload_n X.1.1 X.1.2.1 dX1_init_40 rfl (lv_at hl 0 rfl) ?_
      refine sg_new X S (hs_p hk (by omega) (by omega)) (show vwCl[2]? = some (RX2, TX2, 2) from rfl) in_X2 tyX2 tyX2_ok kl_X1_9 nu_X2.1 nu_X2.2 df_X2 (by show 2 + q + 1 ≤ 17; omega) (by show 15 + 2 * q + 2 ≤ 59; omega) dX1_init_41 (fun H S => ?_)
      refine lv_dup X.1.1 X.1.2.1 dX1_init_44 rfl ?_
      refine sg_callIN (n1 := n + 2 + q + 1) (M1 := hs_M G M k n q 0) X S (k_X2 (k := n + 2 + q) (n := n + 2 + q + 1) (by omega) (hs_p hk (by omega) (by omega))) rfl il_X1_27 ii_X2_init.1 ii_X2_init.2 cw_X2_init rfl iy_X2_init ⟨rfl, rfl⟩ ⟨Nat.le_of_ble_eq_true rfl, Nat.le_of_ble_eq_true rfl⟩ rfl (rest := [.ref (cx_b G + (n + 2 + q)), .int x, .ref (cx_b G + n)]) rfl hl.1 (Nat.le_of_ble_eq_true rfl) dX1_init_45 ⟨by show 2 + q + 1 + 0 ≤ 17; omega, by show 15 + 2 * q + 2 + 0 ≤ 59; omega⟩ (fun H locs S => ?_)
      refine sg_astq X S (by omega) (by omega) (hs_n hk) (r := (RX2, TX2, 2)) rfl (hs_p hk (by omega) (by omega)) (show vwCl[2]? = some (RX2, TX2, 2) from rfl) (by rw [ex]; exact ix_nI hj (by decide)) dX1_init_48 (fun H locs S => ?_)
      rw [ex, nI_clamp (by omega)] at S
      have S := S.to (M' := hs_M G M k n (q + 1) 0) (fun j _ => hs_upp hk j)
      obtain ⟨x2, ex2⟩ : ∃ y : Int32, y = x + 1 := ⟨_, rfl⟩
      refine lv_iinc (v := x2) (lv' := [(1, .int x2), (0, .ref (cx_b G + k))]) X.1.1 X.1.2.1 dX1_init_49 hl (k := 0) rfl (by rw [ex2]; rfl) (by decide) rfl (fun ls hl => ?_)
      refine lv_goto (tgt := 30) X.1.1 X.1.2.1 dX1_init_52 (by decide) ?_
      refine W.widen (k := 2 + (q + 1)) (n := 15 + 2 * (q + 1)) (by omega) (by omega) ?_
      exact ih (q + 1) (by omega) hj (by rw [ex2, ex]; exact nI_1 q) ⟨S.1, S.2.1, S.2.2.1, by have := S.2.2.2; omega⟩ hl
set_option maxRecDepth 100000 in
set_option maxHeartbeats 4000000 in
theorem k_X1 {l : Launch} {G : cx_T} {M : Nat → va_E} {k n : Nat} (hk : k < n) (f0 : M k = .inr (1, [.null, .null, .int 0, .int 0, .int 0, .int 0, .int 0, .int 0])) : cg_m l G n yX1_init cX1_init 2 none ({ frames := 2, cells := 17, slots := 59, locals := 32 }) [.ref (cx_b G + k)] M (cg_qv G (n + 17) (hs_M G M k n 8 7)) 17 59 := by
  refine cg_en (by decide) (Nat.le_of_ble_eq_true rfl) ?_
  intro p e s m args below meth c ls hin2 X S hl
  have hin2 : meth.name = "<init>" := hin2
  have X : cx_oi G p s m args meth c cX1_init 2 RX1 none := X
  have hl : lv_has ls 2 [(0, .ref (cx_b G + k))] := hl
  refine lv_aload_n X.1.1 X.1.2.1 dX1_init_0 rfl (lv_at hl 0 rfl) ?_
  refine sg_oi X ol_X1 oi_i oi_c hl.1 dX1_init_1 (Nat.le_of_ble_eq_true rfl) (Nat.le_of_ble_eq_true rfl) ?_
  refine lv_aload_n X.1.1 X.1.2.1 dX1_init_4 rfl (lv_at hl 0 rfl) ?_
  refine lv_bipush (v := 8) X.1.1 X.1.2.1 dX1_init_5 (by decide) ?_
  obtain ⟨M1, eM1⟩ : ∃ z, z = va_up M n (.inl (cx_c G 2, 8, .inr (.inr (.inr (.inr (fun _ => none)))))) := ⟨_, rfl⟩
  have f1_k : M1 k = .inr (1, [.null, .null, .int 0, .int 0, .int 0, .int 0, .int 0, .int 0]) := by rw [eM1, up_ne (by omega)]; exact f0
  have f1_n : M1 n = .inl (cx_c G 2, 8, .inr (.inr (.inr (.inr (fun _ => none))))) := by rw [eM1]; exact up_at rfl
  have S := S.to (M' := M1) (fun j hj => by rw [eM1, up_ne (by omega)])
  refine sg_newq (N := 8) X S 2 rfl (by decide) f1_n (by decide) rfl (Nat.le_of_ble_eq_true rfl) (Nat.le_of_ble_eq_true rfl) (Nat.le_of_ble_eq_true rfl) kl_X1_9 dX1_init_7 (fun H S => ?_)
  refine sg_putF X hin2 S (by omega) f1_k (show vwCl[1]? = some (RX1, TX1, 8) from rfl) in_X1 tyX1_ok nmX1 0 (by decide) rfl lk_X1_11 rfl rfl rfl (Nat.le_of_ble_eq_true rfl) dX1_init_10 (fun H locs S => ?_)
  obtain ⟨M2, eM2⟩ : ∃ z, z = va_up M1 k (.inr (1, [.ref (cx_b G + n), .null, .int 0, .int 0, .int 0, .int 0, .int 0, .int 0])) := ⟨_, rfl⟩
  have f2_n : M2 n = .inl (cx_c G 2, 8, .inr (.inr (.inr (.inr (fun _ => none))))) := by rw [eM2, up_ne (by omega)]; exact f1_n
  have f2_k : M2 k = .inr (1, [.ref (cx_b G + n), .null, .int 0, .int 0, .int 0, .int 0, .int 0, .int 0]) := by rw [eM2]; exact up_at rfl
  have S : sg_ok G n (n + 1) M2 s H locs (0 + 1) := by rw [eM2]; exact S
  refine lv_aload_n X.1.1 X.1.2.1 dX1_init_13 rfl (lv_at hl 0 rfl) ?_
  refine lv_bipush (v := 7) X.1.1 X.1.2.1 dX1_init_14 (by decide) ?_
  obtain ⟨M3, eM3⟩ : ∃ z, z = va_up M2 (n + 1) (.inl (cx_c G 3, 7, .inr (.inr (.inr (.inr (fun _ => none)))))) := ⟨_, rfl⟩
  have f3_n : M3 n = .inl (cx_c G 2, 8, .inr (.inr (.inr (.inr (fun _ => none))))) := by rw [eM3, up_ne (by omega)]; exact f2_n
  have f3_k : M3 k = .inr (1, [.ref (cx_b G + n), .null, .int 0, .int 0, .int 0, .int 0, .int 0, .int 0]) := by rw [eM3, up_ne (by omega)]; exact f2_k
  have f3_n1 : M3 (n + 1) = .inl (cx_c G 3, 7, .inr (.inr (.inr (.inr (fun _ => none))))) := by rw [eM3]; exact up_at rfl
  have S := S.to (M' := M3) (fun j hj => by rw [eM3, up_ne (by omega)])
  refine sg_newq (N := 7) X S 3 rfl (by decide) f3_n1 (by decide) rfl (Nat.le_of_ble_eq_true rfl) (Nat.le_of_ble_eq_true rfl) (Nat.le_of_ble_eq_true rfl) kl_X1_17 dX1_init_16 (fun H S => ?_)
  refine sg_putF X hin2 S (by omega) f3_k (show vwCl[1]? = some (RX1, TX1, 8) from rfl) in_X1 tyX1_ok nmX1 1 (by decide) rfl lk_X1_19 rfl rfl rfl (Nat.le_of_ble_eq_true rfl) dX1_init_19 (fun H locs S => ?_)
  obtain ⟨M4, eM4⟩ : ∃ z, z = va_up M3 k (.inr (1, [.ref (cx_b G + n), .ref (cx_b G + (n + 1)), .int 0, .int 0, .int 0, .int 0, .int 0, .int 0])) := ⟨_, rfl⟩
  have f4_n : M4 n = .inl (cx_c G 2, 8, .inr (.inr (.inr (.inr (fun _ => none))))) := by rw [eM4, up_ne (by omega)]; exact f3_n
  have f4_n1 : M4 (n + 1) = .inl (cx_c G 3, 7, .inr (.inr (.inr (.inr (fun _ => none))))) := by rw [eM4, up_ne (by omega)]; exact f3_n1
  have f4_k : M4 k = .inr (1, [.ref (cx_b G + n), .ref (cx_b G + (n + 1)), .int 0, .int 0, .int 0, .int 0, .int 0, .int 0]) := by rw [eM4]; exact up_at rfl
  have S : sg_ok G n (n + 2) M4 s H locs (0 + 1 + 1) := by rw [eM4]; exact S
  refine lv_aload_n X.1.1 X.1.2.1 dX1_init_22 rfl (lv_at hl 0 rfl) ?_
  refine lv_bipush (v := 60) X.1.1 X.1.2.1 dX1_init_23 (by decide) ?_
  refine sg_put X S (by omega) f4_k (show vwCl[1]? = some (RX1, TX1, 8) from rfl) in_X1 tyX1_ok nmX1 5 (by decide) lk_X1_23 rfl rfl rfl (Nat.le_of_ble_eq_true rfl) dX1_init_25 (fun H locs S => ?_)
  obtain ⟨M5, eM5⟩ : ∃ z, z = va_up M4 k (.inr (1, [.ref (cx_b G + n), .ref (cx_b G + (n + 1)), .int 0, .int 0, .int 0, .int 60, .int 0, .int 0])) := ⟨_, rfl⟩
  have f5_n : M5 n = .inl (cx_c G 2, 8, .inr (.inr (.inr (.inr (fun _ => none))))) := by rw [eM5, up_ne (by omega)]; exact f4_n
  have f5_n1 : M5 (n + 1) = .inl (cx_c G 3, 7, .inr (.inr (.inr (.inr (fun _ => none))))) := by rw [eM5, up_ne (by omega)]; exact f4_n1
  have f5_k : M5 k = .inr (1, [.ref (cx_b G + n), .ref (cx_b G + (n + 1)), .int 0, .int 0, .int 0, .int 60, .int 0, .int 0]) := by rw [eM5]; exact up_at rfl
  have S : sg_ok G n (n + 2) M5 s H locs (0 + 1 + 1) := by rw [eM5]; exact S
  refine lv_iconst (v := 0) X.1.1 X.1.2.1 dX1_init_28 (by decide) ?_
  refine lv_istore_n (lv' := [(1, .int 0), (0, .ref (cx_b G + k))]) X.1.1 X.1.2.1 dX1_init_29 rfl hl (by decide) rfl (fun ls hl => ?_)
  have S := S.to (M' := hs_M G M k n 0 0) (fun j hj => by
    rcases Nat.lt_or_ge j n with q1 | q1
    · by_cases q2 : j = k
      · rw [q2, f5_k, hs_k]
      · rw [hs_old q2 q1, eM5, up_ne (by omega), eM4, up_ne (by omega), eM3, up_ne (by omega), eM2, up_ne (by omega), eM1, up_ne (by omega)]
    · rcases (show j = n ∨ j = n + 1 by omega) with q2 | q2
      · rw [q2, f5_n, hs_n hk]; try rfl
      · rw [q2, f5_n1, hs_n1 hk]; try rfl)
  exact kw_X1_30 X hk 8 0 (by omega) (by omega) nI_0.symm ⟨S.1, S.2.1, S.2.2.1, by have := S.2.2.2; omega⟩ hl
def ss_a (G : cx_T) (n p : Nat) : Nat → Option Nat := fun i => if i < p then some (cx_b G + (n + 5 + 7 * i)) else none
def ss_z : Nat → va_E := fun _ => .inr (0, [.null, .null, .null, .null, .null, .null, .null, .int 0, .null, .int 0, .int 0, .int 0, .int 0, .int 0, .int 0, .int 0])
def ss_e (G : cx_T) (n h j : Nat) : va_E := mk_X0 G ss_z (n + 5 + 7 * ((j - (n + 5)) / 7)) (n + 5 + 7 * ((j - (n + 5)) / 7) + 1) h j
def ss_M (G : cx_T) (M : Nat → va_E) (k n h p : Nat) : Nat → va_E := fun j => if j = k then .inr (4, [.ref (cx_b G + h), .ref (cx_b G + n), .ref (cx_b G + (n + 1)), .ref (cx_b G + (n + 2)), .ref (cx_b G + (n + 3)), .ref (cx_b G + (n + 4)), .int (-1)]) else if j < n then M j else if j = n then .inl (cx_c G 5, 8, .inr (.inr (.inr (.inr (ss_a G n p))))) else if j < n + 5 then .inl (cx_c G 0, 2, .inl (fun _ => 0)) else ss_e G n h j
theorem ss_k {G : cx_T} {M : Nat → va_E} {k n h p : Nat} : ss_M G M k n h p k = .inr (4, [.ref (cx_b G + h), .ref (cx_b G + n), .ref (cx_b G + (n + 1)), .ref (cx_b G + (n + 2)), .ref (cx_b G + (n + 3)), .ref (cx_b G + (n + 4)), .int (-1)]) := if_pos rfl
theorem ss_old {G : cx_T} {M : Nat → va_E} {k n h p j : Nat} (h1 : j ≠ k) (h2 : j < n) : ss_M G M k n h p j = M j := by unfold ss_M; rw [if_neg h1, if_pos h2]
theorem ss_n {G : cx_T} {M : Nat → va_E} {k n h p : Nat} (hk : k < n) : ss_M G M k n h p n = .inl (cx_c G 5, 8, .inr (.inr (.inr (.inr (ss_a G n p))))) := by unfold ss_M; rw [if_neg (by omega), if_neg (by omega), if_pos rfl]
theorem ss_i {G : cx_T} {M : Nat → va_E} {k n h p j : Nat} (hk : k < n) (h1 : n < j) (h2 : j < n + 5) : ss_M G M k n h p j = .inl (cx_c G 0, 2, .inl (fun _ => 0)) := by unfold ss_M; rw [if_neg (by omega), if_neg (by omega), if_neg (by omega), if_pos h2]
theorem ss_ev {G : cx_T} {M : Nat → va_E} {k n h p j : Nat} (hk : k < n) (h1 : n + 5 ≤ j) : ss_M G M k n h p j = ss_e G n h j := by unfold ss_M; rw [if_neg (by omega), if_neg (by omega), if_neg (by omega), if_neg (by omega)]
theorem ss_upp {G : cx_T} {M : Nat → va_E} {k n h p : Nat} (hk : k < n) (j : Nat) : va_up (ss_M G M k n h p) n (.inl (cx_c G 5, 8, .inr (.inr (.inr (.inr (va_up (ss_a G n p) p (some (cx_b G + (n + 5 + 7 * p))))))))) j = ss_M G M k n h (p + 1) j := by
  by_cases hj : j = n
  · subst hj; rw [up_at rfl, ss_n hk]
    have := up_arr (fun i => some (cx_b G + (j + 5 + 7 * i))) p
    unfold ss_a
    rw [this]
  · rw [up_ne hj]; unfold ss_M; simp only [if_neg hj]
theorem mk_X0_any {G : cx_T} {M M' : Nat → va_E} {k h j : Nat} (h1 : k ≤ j) (h2 : j < k + 7) : mk_X0 G M k (k + 1) h j = mk_X0 G M' k (k + 1) h j := by
  rcases (show j = k ∨ j = k + 1 ∨ j = k + 2 ∨ j = k + 3 ∨ j = k + 4 ∨ j = k + 5 ∨ j = k + 6 by omega) with q | q | q | q | q | q | q <;> subst q <;> unfold mk_X0 <;> simp [va_up]
theorem ss_ev1 {G : cx_T} {M : Nat → va_E} {k n h p j : Nat} (hk : k < n) (h1 : j < n + 5 + 7 * p + 7) : mk_X0 G (va_up (ss_M G M k n h p) (n + 5 + 7 * p) (.inr (0, [.null, .null, .null, .null, .null, .null, .null, .int 0, .null, .int 0, .int 0, .int 0, .int 0, .int 0, .int 0, .int 0]))) (n + 5 + 7 * p) (n + 5 + 7 * p + 1) h j = ss_M G M k n h p j := by
  rcases Nat.lt_or_ge j (n + 5 + 7 * p) with q | q
  · rw [mk_X0_old (by omega) (by omega), up_ne (by omega)]
  · rw [ss_ev hk (by omega)]
    unfold ss_e
    have e1 : (j - (n + 5)) / 7 = p := by omega
    rw [e1]
    exact mk_X0_any q h1
set_option maxRecDepth 100000 in
set_option maxHeartbeats 4000000 in
theorem kw_X4_53 {l : Launch} {G : cx_T} {p : Program} {e : Env} {s : State} {m : MethodId} {args : Array Value} {below : List Frame} {meth : Method} {c : Code} {M : Nat → va_E} (X : cx_oi G p s m args meth c cX4_init 3 RX4 none) {k n h : Nat} (hk : k < n) : ∀ (cnt q : Nat) {x : Int32} {H : Heap} {locs : List Loc} {ls : Array Slot}, 8 ≤ q + cnt → q ≤ 8 → x = nI q → sg_ok G n (n + 5 + 7 * q) (ss_M G M k n h q) s H locs (5 + 7 * q) → lv_has ls 3 [(2, .int x), (0, .ref (cx_b G + k)), (1, .ref (cx_b G + h))] → W p l e ({ frames := 2, cells := 61, slots := 496, locals := 33 }) s m args below meth c H locs (5 + 7 * q) (16 + 60 * q) (MQ below (cg_qv G (n + 61) (ss_M G M k n h 8)) args s 61 496 (cx_A G)) (F0 m 53 ls []) := by
  intro cnt
  induction cnt with
  | zero =>
    intro q x H locs ls h1 h2 ex S hl
    refine lv_iload_n X.1.1 X.1.2.1 dX4_init_53 rfl (lv_at hl 0 rfl) ?_
    refine lv_bipush (v := 7) X.1.1 X.1.2.1 dX4_init_54 (by decide) ?_
    refine lv_icmp_gt (tgt := 79) X.1.1 X.1.2.1 dX4_init_56 (by decide) (fun cq => ?_) (fun cq => ?_)
    · have hj : q = 8 := by
        rcases Nat.lt_or_ge q 8 with q9 | q9
        · exact absurd (show nI 7 < nI q by rw [← ex]; exact cq) (nI_nlt (by omega) (by decide))
        · omega
      subst hj
      exact sg_vret X S (by omega) (fun _ _ => rfl) dX4_init_79
    · exact absurd (show nI 7 < x by rw [ex]; exact nI_lt (by omega) (by omega)) cq
  | succ cnt ih =>
    intro q x H locs ls h1 h2 ex S hl
    refine lv_iload_n X.1.1 X.1.2.1 dX4_init_53 rfl (lv_at hl 0 rfl) ?_
    refine lv_bipush (v := 7) X.1.1 X.1.2.1 dX4_init_54 (by decide) ?_
    refine lv_icmp_gt (tgt := 79) X.1.1 X.1.2.1 dX4_init_56 (by decide) (fun cq => ?_) (fun cq => ?_)
    · have hj : q = 8 := by
        rcases Nat.lt_or_ge q 8 with q9 | q9
        · exact absurd (show nI 7 < nI q by rw [← ex]; exact cq) (nI_nlt (by omega) (by decide))
        · omega
      subst hj
      exact sg_vret X S (by omega) (fun _ _ => rfl) dX4_init_79
    · have hj : q < 8 := by
        rcases Nat.lt_or_ge q 8 with q9 | q9
        · exact q9
        · exact absurd (show nI 7 < x by rw [ex]; exact nI_lt (by omega) (by omega)) cq
      refine lv_aload_n X.1.1 X.1.2.1 dX4_init_59 rfl (lv_at hl 1 rfl) ?_
      refine sg_get X S (by omega) ss_k (show vwCl[4]? = some (RX4, TX4, 7) from rfl) in_X4 1 (by decide) lk_X4_11 rfl dX4_init_60 ?_
      refine lv_iload_n X.1.1 X.1.2.1 dX4_init_63 rfl (lv_at hl 0 rfl) ?_
      have S := S.to (M' := va_up (ss_M G M k n h q) (n + 5 + 7 * q) (.inr (0, [.null, .null, .null, .null, .null, .null, .null, .int 0, .null, .int 0, .int 0, .int 0, .int 0, .int 0, .int 0, .int 0]))) (fun j hj => by rw [up_ne (by omega)])
      refine sg_new X S (up_at rfl) (show vwCl[0]? = some (RX0, TX0, 16) from rfl) in_X0 tyX0 tyX0_ok kl_X4_9 nu_X0.1 nu_X0.2 df_X0 (by show 5 + 7 * q + 1 ≤ 61; omega) (by show 16 + 60 * q + 16 ≤ 496; omega) dX4_init_64 (fun H S => ?_)
      refine lv_dup X.1.1 X.1.2.1 dX4_init_67 rfl ?_
      refine lv_aload_n X.1.1 X.1.2.1 dX4_init_68 rfl (lv_at hl 2 rfl) ?_
      refine sg_callI (n1 := n + 5 + 7 * q + 1 + 6) X S (k_X0 (k := n + 5 + 7 * q) (n := n + 5 + 7 * q + 1) (h := h) (by omega) (up_at rfl)) rfl il_X4_38 ii_X0_init.1 ii_X0_init.2 cw_X0_init rfl iy_X0_init ⟨rfl, rfl⟩ ⟨Nat.le_of_ble_eq_true rfl, Nat.le_of_ble_eq_true rfl⟩ rfl (rest := [.ref (cx_b G + (n + 5 + 7 * q)), .int x, .ref (cx_b G + n)]) rfl hl.1 (Nat.le_of_ble_eq_true rfl) dX4_init_69 ⟨by show 5 + 7 * q + 1 + 6 ≤ 61; omega, by show 16 + 60 * q + 16 + 44 ≤ 496; omega⟩ (fun H locs S => ?_)
      have S := S.to (M' := ss_M G M k n h q) (fun j hj => ss_ev1 hk (by omega))
      have fe : ss_M G M k n h q (n + 5 + 7 * q) = .inr (0, [.ref (cx_b G + h), .null, .ref (cx_b G + (n + 5 + 7 * q + 1)), .ref (cx_b G + ((n + 5 + 7 * q + 1) + 1)), .ref (cx_b G + ((n + 5 + 7 * q + 1) + 2)), .ref (cx_b G + ((n + 5 + 7 * q + 1) + 3)), .ref (cx_b G + ((n + 5 + 7 * q + 1) + 4)), .int 0, .ref (cx_b G + ((n + 5 + 7 * q + 1) + 5)), .int 0, .int 0, .int 0, .int 0, .int 0, .int 0, .int 0]) := by rw [← ss_ev1 (M := M) hk (by omega)]; exact mk_X0_at (by omega)
      refine sg_astq X S (by omega) (by omega) (ss_n hk) (r := (RX0, TX0, 16)) rfl fe (show vwCl[0]? = some (RX0, TX0, 16) from rfl) (by rw [ex]; exact ix_nI hj (by decide)) dX4_init_72 (fun H locs S => ?_)
      rw [ex, nI_clamp (by omega)] at S
      have S := S.to (M' := ss_M G M k n h (q + 1)) (fun j _ => ss_upp hk j)
      obtain ⟨x2, ex2⟩ : ∃ y : Int32, y = x + 1 := ⟨_, rfl⟩
      refine lv_iinc (v := x2) (lv' := [(2, .int x2), (0, .ref (cx_b G + k)), (1, .ref (cx_b G + h))]) X.1.1 X.1.2.1 dX4_init_73 hl (k := 0) rfl (by rw [ex2]; rfl) (by decide) rfl (fun ls hl => ?_)
      refine lv_goto (tgt := 53) X.1.1 X.1.2.1 dX4_init_76 (by decide) ?_
      refine W.widen (k := 5 + 7 * (q + 1)) (n := 16 + 60 * (q + 1)) (by omega) (by omega) ?_
      exact ih (q + 1) (by omega) hj (by rw [ex2, ex]; exact nI_1 q) ⟨S.1, S.2.1, S.2.2.1, by have := S.2.2.2; omega⟩ hl
set_option maxRecDepth 100000 in
set_option maxHeartbeats 4000000 in
theorem k_X4 {l : Launch} {G : cx_T} {M : Nat → va_E} {k n h : Nat} (hk : k < n) (f0 : M k = .inr (4, [.null, .null, .null, .null, .null, .null, .int 0])) : cg_m l G n yX4_init cX4_init 3 none ({ frames := 2, cells := 61, slots := 496, locals := 33 }) [.ref (cx_b G + k), .ref (cx_b G + h)] M (cg_qv G (n + 61) (ss_M G M k n h 8)) 61 496 := by
  refine cg_en (by decide) (Nat.le_of_ble_eq_true rfl) ?_
  intro p e s m args below meth c ls hin2 X S hl
  have hin2 : meth.name = "<init>" := hin2
  have X : cx_oi G p s m args meth c cX4_init 3 RX4 none := X
  have hl : lv_has ls 3 [(0, .ref (cx_b G + k)), (1, .ref (cx_b G + h))] := hl
  refine lv_aload_n X.1.1 X.1.2.1 dX4_init_0 rfl (lv_at hl 0 rfl) ?_
  refine sg_oi X ol_X4 oi_i oi_c hl.1 dX4_init_1 (Nat.le_of_ble_eq_true rfl) (Nat.le_of_ble_eq_true rfl) ?_
  refine lv_aload_n X.1.1 X.1.2.1 dX4_init_4 rfl (lv_at hl 0 rfl) ?_
  refine lv_bipush (v := 8) X.1.1 X.1.2.1 dX4_init_5 (by decide) ?_
  obtain ⟨M1, eM1⟩ : ∃ z, z = va_up M n (.inl (cx_c G 5, 8, .inr (.inr (.inr (.inr (fun _ => none)))))) := ⟨_, rfl⟩
  have f1_k : M1 k = .inr (4, [.null, .null, .null, .null, .null, .null, .int 0]) := by rw [eM1, up_ne (by omega)]; exact f0
  have f1_n : M1 n = .inl (cx_c G 5, 8, .inr (.inr (.inr (.inr (fun _ => none))))) := by rw [eM1]; exact up_at rfl
  have S := S.to (M' := M1) (fun j hj => by rw [eM1, up_ne (by omega)])
  refine sg_newq (N := 8) X S 5 rfl (by decide) f1_n (by decide) rfl (Nat.le_of_ble_eq_true rfl) (Nat.le_of_ble_eq_true rfl) (Nat.le_of_ble_eq_true rfl) kl_X4_9 dX4_init_7 (fun H S => ?_)
  refine sg_putF X hin2 S (by omega) f1_k (show vwCl[4]? = some (RX4, TX4, 7) from rfl) in_X4 tyX4_ok nmX4 1 (by decide) rfl lk_X4_11 rfl rfl rfl (Nat.le_of_ble_eq_true rfl) dX4_init_10 (fun H locs S => ?_)
  obtain ⟨M2, eM2⟩ : ∃ z, z = va_up M1 k (.inr (4, [.null, .ref (cx_b G + n), .null, .null, .null, .null, .int 0])) := ⟨_, rfl⟩
  have f2_n : M2 n = .inl (cx_c G 5, 8, .inr (.inr (.inr (.inr (fun _ => none))))) := by rw [eM2, up_ne (by omega)]; exact f1_n
  have f2_k : M2 k = .inr (4, [.null, .ref (cx_b G + n), .null, .null, .null, .null, .int 0]) := by rw [eM2]; exact up_at rfl
  have S : sg_ok G n (n + 1) M2 s H locs (0 + 1) := by rw [eM2]; exact S
  refine lv_aload_n X.1.1 X.1.2.1 dX4_init_13 rfl (lv_at hl 0 rfl) ?_
  refine lv_iconst (v := 2) X.1.1 X.1.2.1 dX4_init_14 (by decide) ?_
  obtain ⟨M3, eM3⟩ : ∃ z, z = va_up M2 (n + 1) (.inl (cx_c G 0, 2, .inl (fun _ => 0))) := ⟨_, rfl⟩
  have f3_n : M3 n = .inl (cx_c G 5, 8, .inr (.inr (.inr (.inr (fun _ => none))))) := by rw [eM3, up_ne (by omega)]; exact f2_n
  have f3_k : M3 k = .inr (4, [.null, .ref (cx_b G + n), .null, .null, .null, .null, .int 0]) := by rw [eM3, up_ne (by omega)]; exact f2_k
  have f3_n1 : M3 (n + 1) = .inl (cx_c G 0, 2, .inl (fun _ => 0)) := by rw [eM3]; exact up_at rfl
  have S := S.to (M' := M3) (fun j hj => by rw [eM3, up_ne (by omega)])
  refine sg_newi (N := 2) X S f3_n1 (by decide) rfl (Nat.le_of_ble_eq_true rfl) (Nat.le_of_ble_eq_true rfl) (Nat.le_of_ble_eq_true rfl) ac_i dX4_init_15 (fun H S => ?_)
  refine sg_putF X hin2 S (by omega) f3_k (show vwCl[4]? = some (RX4, TX4, 7) from rfl) in_X4 tyX4_ok nmX4 2 (by decide) rfl lk_X4_17 rfl rfl rfl (Nat.le_of_ble_eq_true rfl) dX4_init_17 (fun H locs S => ?_)
  obtain ⟨M4, eM4⟩ : ∃ z, z = va_up M3 k (.inr (4, [.null, .ref (cx_b G + n), .ref (cx_b G + (n + 1)), .null, .null, .null, .int 0])) := ⟨_, rfl⟩
  have f4_n : M4 n = .inl (cx_c G 5, 8, .inr (.inr (.inr (.inr (fun _ => none))))) := by rw [eM4, up_ne (by omega)]; exact f3_n
  have f4_n1 : M4 (n + 1) = .inl (cx_c G 0, 2, .inl (fun _ => 0)) := by rw [eM4, up_ne (by omega)]; exact f3_n1
  have f4_k : M4 k = .inr (4, [.null, .ref (cx_b G + n), .ref (cx_b G + (n + 1)), .null, .null, .null, .int 0]) := by rw [eM4]; exact up_at rfl
  have S : sg_ok G n (n + 2) M4 s H locs (0 + 1 + 1) := by rw [eM4]; exact S
  refine lv_aload_n X.1.1 X.1.2.1 dX4_init_20 rfl (lv_at hl 0 rfl) ?_
  refine lv_iconst (v := 2) X.1.1 X.1.2.1 dX4_init_21 (by decide) ?_
  obtain ⟨M5, eM5⟩ : ∃ z, z = va_up M4 (n + 2) (.inl (cx_c G 0, 2, .inl (fun _ => 0))) := ⟨_, rfl⟩
  have f5_n : M5 n = .inl (cx_c G 5, 8, .inr (.inr (.inr (.inr (fun _ => none))))) := by rw [eM5, up_ne (by omega)]; exact f4_n
  have f5_n1 : M5 (n + 1) = .inl (cx_c G 0, 2, .inl (fun _ => 0)) := by rw [eM5, up_ne (by omega)]; exact f4_n1
  have f5_k : M5 k = .inr (4, [.null, .ref (cx_b G + n), .ref (cx_b G + (n + 1)), .null, .null, .null, .int 0]) := by rw [eM5, up_ne (by omega)]; exact f4_k
  have f5_n2 : M5 (n + 2) = .inl (cx_c G 0, 2, .inl (fun _ => 0)) := by rw [eM5]; exact up_at rfl
  have S := S.to (M' := M5) (fun j hj => by rw [eM5, up_ne (by omega)])
  refine sg_newi (N := 2) X S f5_n2 (by decide) rfl (Nat.le_of_ble_eq_true rfl) (Nat.le_of_ble_eq_true rfl) (Nat.le_of_ble_eq_true rfl) ac_i dX4_init_22 (fun H S => ?_)
  refine sg_putF X hin2 S (by omega) f5_k (show vwCl[4]? = some (RX4, TX4, 7) from rfl) in_X4 tyX4_ok nmX4 3 (by decide) rfl lk_X4_21 rfl rfl rfl (Nat.le_of_ble_eq_true rfl) dX4_init_24 (fun H locs S => ?_)
  obtain ⟨M6, eM6⟩ : ∃ z, z = va_up M5 k (.inr (4, [.null, .ref (cx_b G + n), .ref (cx_b G + (n + 1)), .ref (cx_b G + (n + 2)), .null, .null, .int 0])) := ⟨_, rfl⟩
  have f6_n : M6 n = .inl (cx_c G 5, 8, .inr (.inr (.inr (.inr (fun _ => none))))) := by rw [eM6, up_ne (by omega)]; exact f5_n
  have f6_n1 : M6 (n + 1) = .inl (cx_c G 0, 2, .inl (fun _ => 0)) := by rw [eM6, up_ne (by omega)]; exact f5_n1
  have f6_n2 : M6 (n + 2) = .inl (cx_c G 0, 2, .inl (fun _ => 0)) := by rw [eM6, up_ne (by omega)]; exact f5_n2
  have f6_k : M6 k = .inr (4, [.null, .ref (cx_b G + n), .ref (cx_b G + (n + 1)), .ref (cx_b G + (n + 2)), .null, .null, .int 0]) := by rw [eM6]; exact up_at rfl
  have S : sg_ok G n (n + 3) M6 s H locs (0 + 1 + 1 + 1) := by rw [eM6]; exact S
  refine lv_aload_n X.1.1 X.1.2.1 dX4_init_27 rfl (lv_at hl 0 rfl) ?_
  refine lv_iconst (v := 2) X.1.1 X.1.2.1 dX4_init_28 (by decide) ?_
  obtain ⟨M7, eM7⟩ : ∃ z, z = va_up M6 (n + 3) (.inl (cx_c G 0, 2, .inl (fun _ => 0))) := ⟨_, rfl⟩
  have f7_n : M7 n = .inl (cx_c G 5, 8, .inr (.inr (.inr (.inr (fun _ => none))))) := by rw [eM7, up_ne (by omega)]; exact f6_n
  have f7_n1 : M7 (n + 1) = .inl (cx_c G 0, 2, .inl (fun _ => 0)) := by rw [eM7, up_ne (by omega)]; exact f6_n1
  have f7_n2 : M7 (n + 2) = .inl (cx_c G 0, 2, .inl (fun _ => 0)) := by rw [eM7, up_ne (by omega)]; exact f6_n2
  have f7_k : M7 k = .inr (4, [.null, .ref (cx_b G + n), .ref (cx_b G + (n + 1)), .ref (cx_b G + (n + 2)), .null, .null, .int 0]) := by rw [eM7, up_ne (by omega)]; exact f6_k
  have f7_n3 : M7 (n + 3) = .inl (cx_c G 0, 2, .inl (fun _ => 0)) := by rw [eM7]; exact up_at rfl
  have S := S.to (M' := M7) (fun j hj => by rw [eM7, up_ne (by omega)])
  refine sg_newi (N := 2) X S f7_n3 (by decide) rfl (Nat.le_of_ble_eq_true rfl) (Nat.le_of_ble_eq_true rfl) (Nat.le_of_ble_eq_true rfl) ac_i dX4_init_29 (fun H S => ?_)
  refine sg_putF X hin2 S (by omega) f7_k (show vwCl[4]? = some (RX4, TX4, 7) from rfl) in_X4 tyX4_ok nmX4 4 (by decide) rfl lk_X4_24 rfl rfl rfl (Nat.le_of_ble_eq_true rfl) dX4_init_31 (fun H locs S => ?_)
  obtain ⟨M8, eM8⟩ : ∃ z, z = va_up M7 k (.inr (4, [.null, .ref (cx_b G + n), .ref (cx_b G + (n + 1)), .ref (cx_b G + (n + 2)), .ref (cx_b G + (n + 3)), .null, .int 0])) := ⟨_, rfl⟩
  have f8_n : M8 n = .inl (cx_c G 5, 8, .inr (.inr (.inr (.inr (fun _ => none))))) := by rw [eM8, up_ne (by omega)]; exact f7_n
  have f8_n1 : M8 (n + 1) = .inl (cx_c G 0, 2, .inl (fun _ => 0)) := by rw [eM8, up_ne (by omega)]; exact f7_n1
  have f8_n2 : M8 (n + 2) = .inl (cx_c G 0, 2, .inl (fun _ => 0)) := by rw [eM8, up_ne (by omega)]; exact f7_n2
  have f8_n3 : M8 (n + 3) = .inl (cx_c G 0, 2, .inl (fun _ => 0)) := by rw [eM8, up_ne (by omega)]; exact f7_n3
  have f8_k : M8 k = .inr (4, [.null, .ref (cx_b G + n), .ref (cx_b G + (n + 1)), .ref (cx_b G + (n + 2)), .ref (cx_b G + (n + 3)), .null, .int 0]) := by rw [eM8]; exact up_at rfl
  have S : sg_ok G n (n + 4) M8 s H locs (0 + 1 + 1 + 1 + 1) := by rw [eM8]; exact S
  refine lv_aload_n X.1.1 X.1.2.1 dX4_init_34 rfl (lv_at hl 0 rfl) ?_
  refine lv_iconst (v := 2) X.1.1 X.1.2.1 dX4_init_35 (by decide) ?_
  obtain ⟨M9, eM9⟩ : ∃ z, z = va_up M8 (n + 4) (.inl (cx_c G 0, 2, .inl (fun _ => 0))) := ⟨_, rfl⟩
  have f9_n : M9 n = .inl (cx_c G 5, 8, .inr (.inr (.inr (.inr (fun _ => none))))) := by rw [eM9, up_ne (by omega)]; exact f8_n
  have f9_n1 : M9 (n + 1) = .inl (cx_c G 0, 2, .inl (fun _ => 0)) := by rw [eM9, up_ne (by omega)]; exact f8_n1
  have f9_n2 : M9 (n + 2) = .inl (cx_c G 0, 2, .inl (fun _ => 0)) := by rw [eM9, up_ne (by omega)]; exact f8_n2
  have f9_n3 : M9 (n + 3) = .inl (cx_c G 0, 2, .inl (fun _ => 0)) := by rw [eM9, up_ne (by omega)]; exact f8_n3
  have f9_k : M9 k = .inr (4, [.null, .ref (cx_b G + n), .ref (cx_b G + (n + 1)), .ref (cx_b G + (n + 2)), .ref (cx_b G + (n + 3)), .null, .int 0]) := by rw [eM9, up_ne (by omega)]; exact f8_k
  have f9_n4 : M9 (n + 4) = .inl (cx_c G 0, 2, .inl (fun _ => 0)) := by rw [eM9]; exact up_at rfl
  have S := S.to (M' := M9) (fun j hj => by rw [eM9, up_ne (by omega)])
  refine sg_newi (N := 2) X S f9_n4 (by decide) rfl (Nat.le_of_ble_eq_true rfl) (Nat.le_of_ble_eq_true rfl) (Nat.le_of_ble_eq_true rfl) ac_i dX4_init_36 (fun H S => ?_)
  refine sg_putF X hin2 S (by omega) f9_k (show vwCl[4]? = some (RX4, TX4, 7) from rfl) in_X4 tyX4_ok nmX4 5 (by decide) rfl lk_X4_27 rfl rfl rfl (Nat.le_of_ble_eq_true rfl) dX4_init_38 (fun H locs S => ?_)
  obtain ⟨M10, eM10⟩ : ∃ z, z = va_up M9 k (.inr (4, [.null, .ref (cx_b G + n), .ref (cx_b G + (n + 1)), .ref (cx_b G + (n + 2)), .ref (cx_b G + (n + 3)), .ref (cx_b G + (n + 4)), .int 0])) := ⟨_, rfl⟩
  have f10_n : M10 n = .inl (cx_c G 5, 8, .inr (.inr (.inr (.inr (fun _ => none))))) := by rw [eM10, up_ne (by omega)]; exact f9_n
  have f10_n1 : M10 (n + 1) = .inl (cx_c G 0, 2, .inl (fun _ => 0)) := by rw [eM10, up_ne (by omega)]; exact f9_n1
  have f10_n2 : M10 (n + 2) = .inl (cx_c G 0, 2, .inl (fun _ => 0)) := by rw [eM10, up_ne (by omega)]; exact f9_n2
  have f10_n3 : M10 (n + 3) = .inl (cx_c G 0, 2, .inl (fun _ => 0)) := by rw [eM10, up_ne (by omega)]; exact f9_n3
  have f10_n4 : M10 (n + 4) = .inl (cx_c G 0, 2, .inl (fun _ => 0)) := by rw [eM10, up_ne (by omega)]; exact f9_n4
  have f10_k : M10 k = .inr (4, [.null, .ref (cx_b G + n), .ref (cx_b G + (n + 1)), .ref (cx_b G + (n + 2)), .ref (cx_b G + (n + 3)), .ref (cx_b G + (n + 4)), .int 0]) := by rw [eM10]; exact up_at rfl
  have S : sg_ok G n (n + 5) M10 s H locs (0 + 1 + 1 + 1 + 1 + 1) := by rw [eM10]; exact S
  refine lv_aload_n X.1.1 X.1.2.1 dX4_init_41 rfl (lv_at hl 0 rfl) ?_
  refine lv_iconst (v := -1) X.1.1 X.1.2.1 dX4_init_42 (by decide) ?_
  refine sg_put X S (by omega) f10_k (show vwCl[4]? = some (RX4, TX4, 7) from rfl) in_X4 tyX4_ok nmX4 6 (by decide) lk_X4_30 rfl rfl rfl (Nat.le_of_ble_eq_true rfl) dX4_init_43 (fun H locs S => ?_)
  obtain ⟨M11, eM11⟩ : ∃ z, z = va_up M10 k (.inr (4, [.null, .ref (cx_b G + n), .ref (cx_b G + (n + 1)), .ref (cx_b G + (n + 2)), .ref (cx_b G + (n + 3)), .ref (cx_b G + (n + 4)), .int (-1)])) := ⟨_, rfl⟩
  have f11_n : M11 n = .inl (cx_c G 5, 8, .inr (.inr (.inr (.inr (fun _ => none))))) := by rw [eM11, up_ne (by omega)]; exact f10_n
  have f11_n1 : M11 (n + 1) = .inl (cx_c G 0, 2, .inl (fun _ => 0)) := by rw [eM11, up_ne (by omega)]; exact f10_n1
  have f11_n2 : M11 (n + 2) = .inl (cx_c G 0, 2, .inl (fun _ => 0)) := by rw [eM11, up_ne (by omega)]; exact f10_n2
  have f11_n3 : M11 (n + 3) = .inl (cx_c G 0, 2, .inl (fun _ => 0)) := by rw [eM11, up_ne (by omega)]; exact f10_n3
  have f11_n4 : M11 (n + 4) = .inl (cx_c G 0, 2, .inl (fun _ => 0)) := by rw [eM11, up_ne (by omega)]; exact f10_n4
  have f11_k : M11 k = .inr (4, [.null, .ref (cx_b G + n), .ref (cx_b G + (n + 1)), .ref (cx_b G + (n + 2)), .ref (cx_b G + (n + 3)), .ref (cx_b G + (n + 4)), .int (-1)]) := by rw [eM11]; exact up_at rfl
  have S : sg_ok G n (n + 5) M11 s H locs (0 + 1 + 1 + 1 + 1 + 1) := by rw [eM11]; exact S
  refine lv_aload_n X.1.1 X.1.2.1 dX4_init_46 rfl (lv_at hl 0 rfl) ?_
  refine lv_aload_n X.1.1 X.1.2.1 dX4_init_47 rfl (lv_at hl 1 rfl) ?_
  refine sg_putF X hin2 S (by omega) f11_k (show vwCl[4]? = some (RX4, TX4, 7) from rfl) in_X4 tyX4_ok nmX4 0 (by decide) rfl lk_X4_34 rfl rfl rfl (Nat.le_of_ble_eq_true rfl) dX4_init_48 (fun H locs S => ?_)
  obtain ⟨M12, eM12⟩ : ∃ z, z = va_up M11 k (.inr (4, [.ref (cx_b G + h), .ref (cx_b G + n), .ref (cx_b G + (n + 1)), .ref (cx_b G + (n + 2)), .ref (cx_b G + (n + 3)), .ref (cx_b G + (n + 4)), .int (-1)])) := ⟨_, rfl⟩
  have f12_n : M12 n = .inl (cx_c G 5, 8, .inr (.inr (.inr (.inr (fun _ => none))))) := by rw [eM12, up_ne (by omega)]; exact f11_n
  have f12_n1 : M12 (n + 1) = .inl (cx_c G 0, 2, .inl (fun _ => 0)) := by rw [eM12, up_ne (by omega)]; exact f11_n1
  have f12_n2 : M12 (n + 2) = .inl (cx_c G 0, 2, .inl (fun _ => 0)) := by rw [eM12, up_ne (by omega)]; exact f11_n2
  have f12_n3 : M12 (n + 3) = .inl (cx_c G 0, 2, .inl (fun _ => 0)) := by rw [eM12, up_ne (by omega)]; exact f11_n3
  have f12_n4 : M12 (n + 4) = .inl (cx_c G 0, 2, .inl (fun _ => 0)) := by rw [eM12, up_ne (by omega)]; exact f11_n4
  have f12_k : M12 k = .inr (4, [.ref (cx_b G + h), .ref (cx_b G + n), .ref (cx_b G + (n + 1)), .ref (cx_b G + (n + 2)), .ref (cx_b G + (n + 3)), .ref (cx_b G + (n + 4)), .int (-1)]) := by rw [eM12]; exact up_at rfl
  have S : sg_ok G n (n + 5) M12 s H locs (0 + 1 + 1 + 1 + 1 + 1) := by rw [eM12]; exact S
  refine lv_iconst (v := 0) X.1.1 X.1.2.1 dX4_init_51 (by decide) ?_
  refine lv_istore_n (lv' := [(2, .int 0), (0, .ref (cx_b G + k)), (1, .ref (cx_b G + h))]) X.1.1 X.1.2.1 dX4_init_52 rfl hl (by decide) rfl (fun ls hl => ?_)
  have S := S.to (M' := ss_M G M k n h 0) (fun j hj => by
    rcases Nat.lt_or_ge j n with q1 | q1
    · by_cases q2 : j = k
      · rw [q2, f12_k, ss_k]; try rfl
      · rw [ss_old q2 q1, eM12, up_ne (by omega), eM11, up_ne (by omega), eM10, up_ne (by omega), eM9, up_ne (by omega), eM8, up_ne (by omega), eM7, up_ne (by omega), eM6, up_ne (by omega), eM5, up_ne (by omega), eM4, up_ne (by omega), eM3, up_ne (by omega), eM2, up_ne (by omega), eM1, up_ne (by omega)]
    · rcases (show j = n ∨ j = n + 1 ∨ j = n + 2 ∨ j = n + 3 ∨ j = n + 4 by omega) with q2 | q2 | q2 | q2 | q2
      · rw [q2, f12_n, ss_n hk]; try rfl
      · rw [q2, f12_n1, ss_i hk (by omega) (by omega)]
      · rw [q2, f12_n2, ss_i hk (by omega) (by omega)]
      · rw [q2, f12_n3, ss_i hk (by omega) (by omega)]
      · rw [q2, f12_n4, ss_i hk (by omega) (by omega)])
  refine W.widen (k := 5 + 7 * 0) (n := 16 + 60 * 0) (by omega) (by omega) ?_
  exact kw_X4_53 X hk 8 0 (by omega) (by omega) nI_0.symm ⟨S.1, S.2.1, S.2.2.1, by have := S.2.2.2; omega⟩ (lv_sub hl [0, 1, 2] rfl)
def mk_X7 (G : cx_T) (M : Nat → va_E) (k n : Nat) (h : Nat) (vt vf : Int32) : Nat → va_E := va_up (va_up (va_up (va_up (va_up (M) n (.inl (cx_c G 0, 31, .inl (fun _ => 0)))) k (.inr (7, [.null, .int 0, .int 0, .ref (cx_b G + n)]))) k (.inr (7, [.ref (cx_b G + h), .int 0, .int 0, .ref (cx_b G + n)]))) k (.inr (7, [.ref (cx_b G + h), .int vt, .int 0, .ref (cx_b G + n)]))) k (.inr (7, [.ref (cx_b G + h), .int vt, .int vf, .ref (cx_b G + n)]))
theorem mk_X7_old {G : cx_T} {M : Nat → va_E} {k n j : Nat} {h : Nat} {vt vf : Int32} (h1 : j ≠ k) (h2 : j < n) : mk_X7 G M k n h vt vf j = M j := by
  unfold mk_X7; rw [up_ne (by omega), up_ne (by omega), up_ne (by omega), up_ne (by omega), up_ne (by omega)]
theorem mk_X7_at {G : cx_T} {M : Nat → va_E} {k n : Nat} {h : Nat} {vt vf : Int32} (hk : k < n) : mk_X7 G M k n h vt vf k = .inr (7, [.ref (cx_b G + h), .int vt, .int vf, .ref (cx_b G + n)]) := by
  unfold mk_X7; first | exact up_at rfl | (rw [up_ne (by omega)]; exact up_at rfl)
theorem mk_X7_n {G : cx_T} {M : Nat → va_E} {k n : Nat} {h : Nat} {vt vf : Int32} (hk : k < n) : mk_X7 G M k n h vt vf n = .inl (cx_c G 0, 31, .inl (fun _ => 0)) := by
  unfold mk_X7; rw [up_ne (by omega), up_ne (by omega), up_ne (by omega), up_ne (by omega)]; exact up_at rfl
set_option maxRecDepth 100000 in
set_option maxHeartbeats 4000000 in
theorem k_X7 {l : Launch} {G : cx_T} {M : Nat → va_E} {k n h : Nat} {vt vf : Int32} (hk : k < n) (f0 : M k = .inr (7, [.null, .int 0, .int 0, .null])) : cg_m l G n yX7_init cX7_init 4 none ({ frames := 1, cells := 1, slots := 31, locals := 12 }) [.ref (cx_b G + k), .ref (cx_b G + h), .int vt, .int vf] M (cg_qv G (n + 1) (mk_X7 G M k n h vt vf)) 1 31 := by
  refine cg_en (by decide) (Nat.le_of_ble_eq_true rfl) ?_
  intro p e s m args below meth c ls hin2 X S hl
  have hin2 : meth.name = "<init>" := hin2
  have X : cx_oi G p s m args meth c cX7_init 4 RX7 none := X
  have hl : lv_has ls 4 [(0, .ref (cx_b G + k)), (1, .ref (cx_b G + h)), (2, .int vt), (3, .int vf)] := hl
  refine lv_aload_n X.1.1 X.1.2.1 dX7_init_0 rfl (lv_at hl 0 rfl) ?_
  refine sg_oi X ol_X7 oi_i oi_c hl.1 dX7_init_1 (Nat.le_of_ble_eq_true rfl) (Nat.le_of_ble_eq_true rfl) ?_
  refine lv_aload_n X.1.1 X.1.2.1 dX7_init_4 rfl (lv_at hl 0 rfl) ?_
  refine lv_bipush (v := 31) X.1.1 X.1.2.1 dX7_init_5 (by decide) ?_
  obtain ⟨M1, eM1⟩ : ∃ z, z = va_up M n (.inl (cx_c G 0, 31, .inl (fun _ => 0))) := ⟨_, rfl⟩
  have f1_k : M1 k = .inr (7, [.null, .int 0, .int 0, .null]) := by rw [eM1, up_ne (by omega)]; exact f0
  have f1_n : M1 n = .inl (cx_c G 0, 31, .inl (fun _ => 0)) := by rw [eM1]; exact up_at rfl
  have S := S.to (M' := M1) (fun j hj => by rw [eM1, up_ne (by omega)])
  refine sg_newi (N := 31) X S f1_n (by decide) rfl (Nat.le_of_ble_eq_true rfl) (Nat.le_of_ble_eq_true rfl) (Nat.le_of_ble_eq_true rfl) ac_i dX7_init_7 (fun H S => ?_)
  refine sg_putF X hin2 S (by omega) f1_k (show vwCl[7]? = some (RX7, TX7, 4) from rfl) in_X7 tyX7_ok nmX7 3 (by decide) rfl lk_X7_9 rfl rfl rfl (Nat.le_of_ble_eq_true rfl) dX7_init_9 (fun H locs S => ?_)
  obtain ⟨M2, eM2⟩ : ∃ z, z = va_up M1 k (.inr (7, [.null, .int 0, .int 0, .ref (cx_b G + n)])) := ⟨_, rfl⟩
  have f2_n : M2 n = .inl (cx_c G 0, 31, .inl (fun _ => 0)) := by rw [eM2, up_ne (by omega)]; exact f1_n
  have f2_k : M2 k = .inr (7, [.null, .int 0, .int 0, .ref (cx_b G + n)]) := by rw [eM2]; exact up_at rfl
  have S : sg_ok G n (n + 1) M2 s H locs (0 + 1) := by rw [eM2]; exact S
  refine lv_aload_n X.1.1 X.1.2.1 dX7_init_12 rfl (lv_at hl 0 rfl) ?_
  refine lv_aload_n X.1.1 X.1.2.1 dX7_init_13 rfl (lv_at hl 1 rfl) ?_
  refine sg_putF X hin2 S (by omega) f2_k (show vwCl[7]? = some (RX7, TX7, 4) from rfl) in_X7 tyX7_ok nmX7 0 (by decide) rfl lk_X7_13 rfl rfl rfl (Nat.le_of_ble_eq_true rfl) dX7_init_14 (fun H locs S => ?_)
  obtain ⟨M3, eM3⟩ : ∃ z, z = va_up M2 k (.inr (7, [.ref (cx_b G + h), .int 0, .int 0, .ref (cx_b G + n)])) := ⟨_, rfl⟩
  have f3_n : M3 n = .inl (cx_c G 0, 31, .inl (fun _ => 0)) := by rw [eM3, up_ne (by omega)]; exact f2_n
  have f3_k : M3 k = .inr (7, [.ref (cx_b G + h), .int 0, .int 0, .ref (cx_b G + n)]) := by rw [eM3]; exact up_at rfl
  have S : sg_ok G n (n + 1) M3 s H locs (0 + 1) := by rw [eM3]; exact S
  refine lv_aload_n X.1.1 X.1.2.1 dX7_init_17 rfl (lv_at hl 0 rfl) ?_
  refine lv_iload_n X.1.1 X.1.2.1 dX7_init_18 rfl (lv_at hl 2 rfl) ?_
  refine sg_putF X hin2 S (by omega) f3_k (show vwCl[7]? = some (RX7, TX7, 4) from rfl) in_X7 tyX7_ok nmX7 1 (by decide) rfl lk_X7_16 rfl rfl rfl (Nat.le_of_ble_eq_true rfl) dX7_init_19 (fun H locs S => ?_)
  obtain ⟨M4, eM4⟩ : ∃ z, z = va_up M3 k (.inr (7, [.ref (cx_b G + h), .int vt, .int 0, .ref (cx_b G + n)])) := ⟨_, rfl⟩
  have f4_n : M4 n = .inl (cx_c G 0, 31, .inl (fun _ => 0)) := by rw [eM4, up_ne (by omega)]; exact f3_n
  have f4_k : M4 k = .inr (7, [.ref (cx_b G + h), .int vt, .int 0, .ref (cx_b G + n)]) := by rw [eM4]; exact up_at rfl
  have S : sg_ok G n (n + 1) M4 s H locs (0 + 1) := by rw [eM4]; exact S
  refine lv_aload_n X.1.1 X.1.2.1 dX7_init_22 rfl (lv_at hl 0 rfl) ?_
  refine lv_iload_n X.1.1 X.1.2.1 dX7_init_23 rfl (lv_at hl 3 rfl) ?_
  refine sg_putF X hin2 S (by omega) f4_k (show vwCl[7]? = some (RX7, TX7, 4) from rfl) in_X7 tyX7_ok nmX7 2 (by decide) rfl lk_X7_20 rfl rfl rfl (Nat.le_of_ble_eq_true rfl) dX7_init_24 (fun H locs S => ?_)
  obtain ⟨M5, eM5⟩ : ∃ z, z = va_up M4 k (.inr (7, [.ref (cx_b G + h), .int vt, .int vf, .ref (cx_b G + n)])) := ⟨_, rfl⟩
  have f5_n : M5 n = .inl (cx_c G 0, 31, .inl (fun _ => 0)) := by rw [eM5, up_ne (by omega)]; exact f4_n
  have f5_k : M5 k = .inr (7, [.ref (cx_b G + h), .int vt, .int vf, .ref (cx_b G + n)]) := by rw [eM5]; exact up_at rfl
  have S : sg_ok G n (n + 1) M5 s H locs (0 + 1) := by rw [eM5]; exact S
  exact sg_vret X S rfl (fun j _ => by rw [eM5, eM4, eM3, eM2, eM1]; rfl) dX7_init_27
