theorem goodIn_q (ws : List Cond) (ps : List Nat) (hp : ws = ps.filterMap (fun i => lw_tbl[i]?)) (h : ws.all goodWord = true) : ∀ w ∈ ws, w ∈ lw_tbl ∧ goodWord w = true := by
  intro w hw
  have h1 := List.all_eq_true.mp h w hw
  rw [hp] at hw
  obtain ⟨i, -, hi⟩ := List.mem_filterMap.mp hw
  exact ⟨List.mem_of_getElem? hi, h1⟩
theorem gw_wsV {own C : String} {idx ml : Nat} {y : MethodName} {cy : ByteArray} {ry : Option FieldType} (h1 : Cond.methodLink own idx y ∈ gw_t) (h2 : Cond.instanceMethod y ∈ gw_t) (h3 : Cond.selects C y y ∈ gw_t) (h4 : Cond.initialized C ∈ gw_t) (h5 : Cond.code y cy ml ry ∈ gw_t) : GoodIn gw_t (wsV own idx C y (.code y cy ml ry :: gw_t)) := by
  intro w hw
  have hm : w ∈ gw_t := by
    unfold wsV at hw
    rcases List.mem_append.mp hw with h | h
    · simp only [List.mem_cons, List.not_mem_nil, or_false] at h
      rcases h with rfl | rfl | rfl | rfl <;> assumption
    · rcases List.mem_cons.mp h with rfl | h
      · exact h5
      · exact h
  exact gw_good w hm
theorem gw_wsS {own : String} {idx ml : Nat} {y : MethodName} {cy : ByteArray} {ry : Option FieldType} (h1 : Cond.methodLink own idx y ∈ gw_t) (h2 : Cond.static y ∈ gw_t) (h4 : Cond.initialized y.cls ∈ gw_t) (h5 : Cond.code y cy ml ry ∈ gw_t) : GoodIn gw_t (va_wsS own idx y (.code y cy ml ry :: gw_t)) := by
  intro w hw
  have hm : w ∈ gw_t := by
    unfold va_wsS at hw
    rcases List.mem_append.mp hw with h | h
    · simp only [List.mem_cons, List.not_mem_nil, or_false] at h
      rcases h with rfl | rfl | rfl <;> assumption
    · rcases List.mem_cons.mp h with rfl | h
      · exact h5
      · exact h
  exact gw_good w hm
/-! ===== words of the tables, fields, calls ===== -/
theorem in_X0 : ∀ w ∈ u_ws RX0 TX0 16, w ∈ gw_t := fun w h => List.mem_filter.mpr ((goodIn_q (u_ws RX0 TX0 16) [259, 261, 263, 265, 267, 269, 271, 273, 275, 277, 279, 281, 283, 285, 287, 289] (by decide +kernel) (by decide +kernel)) w h)
theorem in_X1 : ∀ w ∈ u_ws RX1 TX1 8, w ∈ gw_t := fun w h => List.mem_filter.mpr ((goodIn_q (u_ws RX1 TX1 8) [166, 168, 170, 172, 174, 176, 178, 180] (by decide +kernel) (by decide +kernel)) w h)
theorem in_X2 : ∀ w ∈ u_ws RX2 TX2 2, w ∈ gw_t := fun w h => List.mem_filter.mpr ((goodIn_q (u_ws RX2 TX2 2) [111, 113] (by decide +kernel) (by decide +kernel)) w h)
theorem in_X3 : ∀ w ∈ u_ws RX3 TX3 11, w ∈ gw_t := fun w h => List.mem_filter.mpr ((goodIn_q (u_ws RX3 TX3 11) [202, 204, 206, 208, 210, 212, 214, 216, 218, 220, 222] (by decide +kernel) (by decide +kernel)) w h)
theorem in_X4 : ∀ w ∈ u_ws RX4 TX4 7, w ∈ gw_t := fun w h => List.mem_filter.mpr ((goodIn_q (u_ws RX4 TX4 7) [308, 310, 312, 314, 316, 318, 320] (by decide +kernel) (by decide +kernel)) w h)
theorem in_X5 : ∀ w ∈ u_ws RX5 TX5 3, w ∈ gw_t := fun w h => List.mem_filter.mpr ((goodIn_q (u_ws RX5 TX5 3) [558, 560, 562] (by decide +kernel) (by decide +kernel)) w h)
theorem in_X6 : ∀ w ∈ u_ws RX6 TX6 4, w ∈ gw_t := fun w h => List.mem_filter.mpr ((goodIn_q (u_ws RX6 TX6 4) [135, 137, 139, 141] (by decide +kernel) (by decide +kernel)) w h)
theorem in_X7 : ∀ w ∈ u_ws RX7 TX7 4, w ∈ gw_t := fun w h => List.mem_filter.mpr ((goodIn_q (u_ws RX7 TX7 4) [537, 539, 541, 543] (by decide +kernel) (by decide +kernel)) w h)
theorem in_X8 : ∀ w ∈ u_ws RX8 TX8 9, w ∈ gw_t := fun w h => List.mem_filter.mpr ((goodIn_q (u_ws RX8 TX8 9) [574, 576, 578, 580, 582, 584, 586, 588, 590] (by decide +kernel) (by decide +kernel)) w h)
theorem in_X9 : ∀ w ∈ u_ws RX9 TX9 61, w ∈ gw_t := fun w h => List.mem_filter.mpr ((goodIn_q (u_ws RX9 TX9 61) [990, 992, 994, 996, 998, 1000, 1002, 1004, 1006, 1008, 1010, 1012, 1014, 1016, 1018, 1020, 1022, 1024, 1026, 1028, 1030, 1032, 1034, 1036, 1038, 1040, 1042, 1044, 1046, 1048, 1050, 1052, 1054, 1056, 1058, 1060, 1062, 1064, 1066, 1068, 1070, 1072, 1074, 1076, 1078, 1080, 1082, 1084, 1086, 1088, 1090, 1092, 1094, 1096, 1098, 1100, 1102, 1104, 1106, 1108, 1110] (by decide +kernel) (by decide +kernel)) w h)
theorem lk_X0_9 : Cond.fieldLink RX0 9 "WhoSingsNext$Evening" "names" "[I" ∈ gw_t := gw_mem 236 (by decide +kernel) (by decide +kernel)
theorem lk_X0_15 : Cond.fieldLink RX0 15 "WhoSingsNext$Evening" "lastSang" "[I" ∈ gw_t := gw_mem 237 (by decide +kernel) (by decide +kernel)
theorem lk_X0_18 : Cond.fieldLink RX0 18 "WhoSingsNext$Evening" "sungBy" "[I" ∈ gw_t := gw_mem 238 (by decide +kernel) (by decide +kernel)
theorem lk_X0_21 : Cond.fieldLink RX0 21 "WhoSingsNext$Evening" "bears" "[I" ∈ gw_t := gw_mem 239 (by decide +kernel) (by decide +kernel)
theorem lk_X0_24 : Cond.fieldLink RX0 24 "WhoSingsNext$Evening" "row" "[I" ∈ gw_t := gw_mem 240 (by decide +kernel) (by decide +kernel)
theorem lk_X0_27 : Cond.fieldLink RX0 27 "WhoSingsNext$Evening" "begins" "[I" ∈ gw_t := gw_mem 244 (by decide +kernel) (by decide +kernel)
theorem lk_X0_30 : Cond.fieldLink RX0 30 "WhoSingsNext$Evening" "house" "LWhoSingsNext$House;" ∈ gw_t := gw_mem 234 (by decide +kernel) (by decide +kernel)
theorem lk_X0_34 : Cond.fieldLink RX0 34 "WhoSingsNext$Evening" "rule" "LWhoSingsNext$Text;" ∈ gw_t := gw_mem 235 (by decide +kernel) (by decide +kernel)
theorem lk_X0_44 : Cond.fieldLink RX0 44 "WhoSingsNext$Evening" "calls" "I" ∈ gw_t := gw_mem 242 (by decide +kernel) (by decide +kernel)
theorem lk_X0_48 : Cond.fieldLink RX0 48 "WhoSingsNext$Evening" "called" "I" ∈ gw_t := gw_mem 246 (by decide +kernel) (by decide +kernel)
theorem lk_X0_51 : Cond.fieldLink RX0 51 "WhoSingsNext$Evening" "minute" "I" ∈ gw_t := gw_mem 247 (by decide +kernel) (by decide +kernel)
theorem lk_X0_54 : Cond.fieldLinkNest RX0 54 "WhoSingsNext$House" "mood" "I" "WhoSingsNext" ∈ nw_t := nw_mem 156 (by decide +kernel) (by decide +kernel)
theorem lk_X0_59 : Cond.fieldLink RX0 59 "WhoSingsNext$Evening" "mood" "I" ∈ gw_t := gw_mem 248 (by decide +kernel) (by decide +kernel)
theorem lk_X0_60 : Cond.fieldLink RX0 60 "WhoSingsNext$Evening" "bar" "I" ∈ gw_t := gw_mem 250 (by decide +kernel) (by decide +kernel)
theorem lk_X0_63 : Cond.fieldLink RX0 63 "WhoSingsNext$Evening" "left" "I" ∈ gw_t := gw_mem 253 (by decide +kernel) (by decide +kernel)
theorem lk_X0_66 : Cond.fieldLink RX0 66 "WhoSingsNext$Evening" "sung" "I" ∈ gw_t := gw_mem 256 (by decide +kernel) (by decide +kernel)
theorem lk_X0_69 : Cond.fieldLinkNest RX0 69 "WhoSingsNext$House" "peopleCount" "I" "WhoSingsNext" ∈ nw_t := nw_mem 150 (by decide +kernel) (by decide +kernel)
theorem lk_X0_72 : Cond.fieldLink RX0 72 "WhoSingsNext$Evening" "there" "I" ∈ gw_t := gw_mem 258 (by decide +kernel) (by decide +kernel)
theorem lk_X0_89 : Cond.fieldLinkNest RX0 89 "WhoSingsNext$House" "slips" "[LWhoSingsNext$Slip;" "WhoSingsNext" ∈ nw_t := nw_mem 148 (by decide +kernel) (by decide +kernel)
theorem lk_X0_93 : Cond.fieldLinkNest RX0 93 "WhoSingsNext$Slip" "whose" "I" "WhoSingsNext" ∈ nw_t := nw_mem 133 (by decide +kernel) (by decide +kernel)
theorem lk_X0_98 : Cond.fieldLinkNest RX0 98 "WhoSingsNext$Slip" "minutes" "I" "WhoSingsNext" ∈ nw_t := nw_mem 130 (by decide +kernel) (by decide +kernel)
theorem lk_X0_101 : Cond.fieldLinkNest RX0 101 "WhoSingsNext$House" "till" "I" "WhoSingsNext" ∈ nw_t := nw_mem 160 (by decide +kernel) (by decide +kernel)
theorem lk_X0_122 : Cond.fieldLinkNest RX0 122 "WhoSingsNext$Slip" "kind" "I" "WhoSingsNext" ∈ nw_t := nw_mem 124 (by decide +kernel) (by decide +kernel)
theorem lk_X0_152 : Cond.fieldLinkNest RX0 152 "WhoSingsNext$House" "people" "[LWhoSingsNext$Person;" "WhoSingsNext" ∈ nw_t := nw_mem 145 (by decide +kernel) (by decide +kernel)
theorem lk_X0_156 : Cond.fieldLinkNest RX0 156 "WhoSingsNext$Person" "group" "I" "WhoSingsNext" ∈ nw_t := nw_mem 110 (by decide +kernel) (by decide +kernel)
theorem lk_X0_161 : Cond.fieldLinkNest RX0 161 "WhoSingsNext$Person" "patience" "I" "WhoSingsNext" ∈ nw_t := nw_mem 107 (by decide +kernel) (by decide +kernel)
theorem lk_X0_172 : Cond.fieldLinkNest RX0 172 "WhoSingsNext$House" "slipCount" "I" "WhoSingsNext" ∈ nw_t := nw_mem 154 (by decide +kernel) (by decide +kernel)
theorem lk_X1_11 : Cond.fieldLink RX1 11 "WhoSingsNext$House" "people" "[LWhoSingsNext$Person;" ∈ gw_t := gw_mem 144 (by decide +kernel) (by decide +kernel)
theorem lk_X1_19 : Cond.fieldLink RX1 19 "WhoSingsNext$House" "slips" "[LWhoSingsNext$Slip;" ∈ gw_t := gw_mem 146 (by decide +kernel) (by decide +kernel)
theorem lk_X1_23 : Cond.fieldLink RX1 23 "WhoSingsNext$House" "till" "I" ∈ gw_t := gw_mem 159 (by decide +kernel) (by decide +kernel)
theorem lk_X1_29 : Cond.fieldLink RX1 29 "WhoSingsNext$House" "peopleCount" "I" ∈ gw_t := gw_mem 149 (by decide +kernel) (by decide +kernel)
theorem lk_X1_32 : Cond.fieldLink RX1 32 "WhoSingsNext$House" "slipCount" "I" ∈ gw_t := gw_mem 152 (by decide +kernel) (by decide +kernel)
theorem lk_X1_35 : Cond.fieldLinkNest RX1 35 "WhoSingsNext$Slip" "whose" "I" "WhoSingsNext" ∈ nw_t := nw_mem 132 (by decide +kernel) (by decide +kernel)
theorem lk_X1_38 : Cond.fieldLinkNest RX1 38 "WhoSingsNext$Person" "group" "I" "WhoSingsNext" ∈ nw_t := nw_mem 109 (by decide +kernel) (by decide +kernel)
theorem lk_X1_41 : Cond.fieldLinkNest RX1 41 "WhoSingsNext$Person" "patience" "I" "WhoSingsNext" ∈ nw_t := nw_mem 106 (by decide +kernel) (by decide +kernel)
theorem lk_X1_44 : Cond.fieldLink RX1 44 "WhoSingsNext$House" "changes" "I" ∈ gw_t := gw_mem 165 (by decide +kernel) (by decide +kernel)
theorem lk_X1_54 : Cond.fieldLinkNest RX1 54 "WhoSingsNext$Slip" "number" "I" "WhoSingsNext" ∈ nw_t := nw_mem 126 (by decide +kernel) (by decide +kernel)
theorem lk_X1_57 : Cond.fieldLinkNest RX1 57 "WhoSingsNext$Slip" "minutes" "I" "WhoSingsNext" ∈ nw_t := nw_mem 129 (by decide +kernel) (by decide +kernel)
theorem lk_X1_67 : Cond.fieldLink RX1 67 "WhoSingsNext$House" "mood" "I" ∈ gw_t := gw_mem 157 (by decide +kernel) (by decide +kernel)
theorem lk_X1_73 : Cond.fieldLink RX1 73 "WhoSingsNext$House" "rule" "I" ∈ gw_t := gw_mem 163 (by decide +kernel) (by decide +kernel)
theorem lk_X2_7 : Cond.fieldLink RX2 7 "WhoSingsNext$Person" "patience" "I" ∈ gw_t := gw_mem 105 (by decide +kernel) (by decide +kernel)
theorem lk_X2_13 : Cond.fieldLink RX2 13 "WhoSingsNext$Person" "group" "I" ∈ gw_t := gw_mem 108 (by decide +kernel) (by decide +kernel)
theorem lk_X3_9 : Cond.fieldLink RX3 9 "WhoSingsNext$Reader" "tape" "[I" ∈ gw_t := gw_mem 189 (by decide +kernel) (by decide +kernel)
theorem lk_X3_15 : Cond.fieldLink RX3 15 "WhoSingsNext$Reader" "code" "[I" ∈ gw_t := gw_mem 192 (by decide +kernel) (by decide +kernel)
theorem lk_X3_18 : Cond.fieldLink RX3 18 "WhoSingsNext$Reader" "bytes" "I" ∈ gw_t := gw_mem 190 (by decide +kernel) (by decide +kernel)
theorem lk_X3_22 : Cond.fieldLink RX3 22 "WhoSingsNext$Reader" "codes" "I" ∈ gw_t := gw_mem 193 (by decide +kernel) (by decide +kernel)
theorem lk_X3_25 : Cond.fieldLink RX3 25 "WhoSingsNext$Reader" "next" "I" ∈ gw_t := gw_mem 199 (by decide +kernel) (by decide +kernel)
theorem lk_X3_28 : Cond.fieldLink RX3 28 "WhoSingsNext$Reader" "fault" "I" ∈ gw_t := gw_mem 200 (by decide +kernel) (by decide +kernel)
theorem lk_X3_42 : Cond.fieldLink RX3 42 "WhoSingsNext$Reader" "takesAt" "I" ∈ gw_t := gw_mem 194 (by decide +kernel) (by decide +kernel)
theorem lk_X3_45 : Cond.fieldLink RX3 45 "WhoSingsNext$Reader" "firstAt" "I" ∈ gw_t := gw_mem 195 (by decide +kernel) (by decide +kernel)
theorem lk_X3_48 : Cond.fieldLink RX3 48 "WhoSingsNext$Reader" "token" "I" ∈ gw_t := gw_mem 196 (by decide +kernel) (by decide +kernel)
theorem lk_X3_65 : Cond.fieldLink RX3 65 "WhoSingsNext$Reader" "place" "I" ∈ gw_t := gw_mem 198 (by decide +kernel) (by decide +kernel)
theorem lk_X3_81 : Cond.fieldLink RX3 81 "WhoSingsNext$Reader" "number" "I" ∈ gw_t := gw_mem 197 (by decide +kernel) (by decide +kernel)
theorem lk_X4_11 : Cond.fieldLink RX4 11 "WhoSingsNext$Search" "evenings" "[LWhoSingsNext$Evening;" ∈ gw_t := gw_mem 302 (by decide +kernel) (by decide +kernel)
theorem lk_X4_17 : Cond.fieldLink RX4 17 "WhoSingsNext$Search" "taken" "[I" ∈ gw_t := gw_mem 303 (by decide +kernel) (by decide +kernel)
theorem lk_X4_21 : Cond.fieldLink RX4 21 "WhoSingsNext$Search" "left" "[I" ∈ gw_t := gw_mem 304 (by decide +kernel) (by decide +kernel)
theorem lk_X4_24 : Cond.fieldLink RX4 24 "WhoSingsNext$Search" "sung" "[I" ∈ gw_t := gw_mem 305 (by decide +kernel) (by decide +kernel)
theorem lk_X4_27 : Cond.fieldLink RX4 27 "WhoSingsNext$Search" "row" "[I" ∈ gw_t := gw_mem 306 (by decide +kernel) (by decide +kernel)
theorem lk_X4_30 : Cond.fieldLink RX4 30 "WhoSingsNext$Search" "looked" "I" ∈ gw_t := gw_mem 307 (by decide +kernel) (by decide +kernel)
theorem lk_X4_34 : Cond.fieldLink RX4 34 "WhoSingsNext$Search" "house" "LWhoSingsNext$House;" ∈ gw_t := gw_mem 301 (by decide +kernel) (by decide +kernel)
theorem lk_X4_41 : Cond.fieldLinkNest RX4 41 "WhoSingsNext$House" "changes" "I" "WhoSingsNext" ∈ nw_t := nw_mem 164 (by decide +kernel) (by decide +kernel)
theorem lk_X4_58 : Cond.fieldLinkNest RX4 58 "WhoSingsNext$Evening" "bar" "I" "WhoSingsNext" ∈ nw_t := nw_mem 251 (by decide +kernel) (by decide +kernel)
theorem lk_X4_61 : Cond.fieldLinkNest RX4 61 "WhoSingsNext$Evening" "left" "I" "WhoSingsNext" ∈ nw_t := nw_mem 254 (by decide +kernel) (by decide +kernel)
theorem lk_X4_63 : Cond.fieldLinkNest RX4 63 "WhoSingsNext$Evening" "sung" "I" "WhoSingsNext" ∈ nw_t := nw_mem 257 (by decide +kernel) (by decide +kernel)
theorem lk_X4_65 : Cond.fieldLinkNest RX4 65 "WhoSingsNext$House" "slipCount" "I" "WhoSingsNext" ∈ nw_t := nw_mem 153 (by decide +kernel) (by decide +kernel)
theorem lk_X5_9 : Cond.fieldLink RX5 9 "WhoSingsNext$Sheet" "items" "[I" ∈ gw_t := gw_mem 552 (by decide +kernel) (by decide +kernel)
theorem lk_X5_15 : Cond.fieldLink RX5 15 "WhoSingsNext$Sheet" "sort" "I" ∈ gw_t := gw_mem 554 (by decide +kernel) (by decide +kernel)
theorem lk_X5_19 : Cond.fieldLink RX5 19 "WhoSingsNext$Sheet" "size" "I" ∈ gw_t := gw_mem 556 (by decide +kernel) (by decide +kernel)
theorem lk_X6_9 : Cond.fieldLink RX6 9 "WhoSingsNext$Slip" "kind" "I" ∈ gw_t := gw_mem 121 (by decide +kernel) (by decide +kernel)
theorem lk_X6_15 : Cond.fieldLink RX6 15 "WhoSingsNext$Slip" "number" "I" ∈ gw_t := gw_mem 125 (by decide +kernel) (by decide +kernel)
theorem lk_X6_18 : Cond.fieldLink RX6 18 "WhoSingsNext$Slip" "minutes" "I" ∈ gw_t := gw_mem 128 (by decide +kernel) (by decide +kernel)
theorem lk_X6_21 : Cond.fieldLink RX6 21 "WhoSingsNext$Slip" "whose" "I" ∈ gw_t := gw_mem 131 (by decide +kernel) (by decide +kernel)
theorem lk_X7_9 : Cond.fieldLink RX7 9 "WhoSingsNext$Text" "pending" "[I" ∈ gw_t := gw_mem 536 (by decide +kernel) (by decide +kernel)
theorem lk_X7_13 : Cond.fieldLink RX7 13 "WhoSingsNext$Text" "code" "[I" ∈ gw_t := gw_mem 533 (by decide +kernel) (by decide +kernel)
theorem lk_X7_16 : Cond.fieldLink RX7 16 "WhoSingsNext$Text" "takesAt" "I" ∈ gw_t := gw_mem 534 (by decide +kernel) (by decide +kernel)
theorem lk_X7_20 : Cond.fieldLink RX7 20 "WhoSingsNext$Text" "firstAt" "I" ∈ gw_t := gw_mem 535 (by decide +kernel) (by decide +kernel)
theorem lk_X8_10 : Cond.fieldLink RX8 10 "WhoSingsNext" "house" "LWhoSingsNext$House;" ∈ gw_t := gw_mem 565 (by decide +kernel) (by decide +kernel)
theorem lk_X8_16 : Cond.fieldLink RX8 16 "WhoSingsNext" "kept" "LWhoSingsNext$House;" ∈ gw_t := gw_mem 566 (by decide +kernel) (by decide +kernel)
theorem lk_X8_22 : Cond.fieldLink RX8 22 "WhoSingsNext" "reader" "LWhoSingsNext$Reader;" ∈ gw_t := gw_mem 568 (by decide +kernel) (by decide +kernel)
theorem lk_X8_28 : Cond.fieldLink RX8 28 "WhoSingsNext" "texts" "[LWhoSingsNext$Text;" ∈ gw_t := gw_mem 569 (by decide +kernel) (by decide +kernel)
theorem lk_X8_37 : Cond.fieldLink RX8 37 "WhoSingsNext" "tonight" "LWhoSingsNext$Evening;" ∈ gw_t := gw_mem 571 (by decide +kernel) (by decide +kernel)
theorem lk_X8_44 : Cond.fieldLink RX8 44 "WhoSingsNext" "search" "LWhoSingsNext$Search;" ∈ gw_t := gw_mem 572 (by decide +kernel) (by decide +kernel)
theorem lk_X8_50 : Cond.fieldLink RX8 50 "WhoSingsNext" "sheets" "[LWhoSingsNext$Sheet;" ∈ gw_t := gw_mem 573 (by decide +kernel) (by decide +kernel)
theorem lk_X8_78 : Cond.fieldLink RX8 78 "WhoSingsNext" "textCount" "I" ∈ gw_t := gw_mem 570 (by decide +kernel) (by decide +kernel)
theorem lk_X8_109 : Cond.fieldLinkNest RX8 109 "WhoSingsNext$House" "slips" "[LWhoSingsNext$Slip;" "WhoSingsNext" ∈ nw_t := nw_mem 147 (by decide +kernel) (by decide +kernel)
theorem lk_X8_113 : Cond.fieldLinkNest RX8 113 "WhoSingsNext$Slip" "kind" "I" "WhoSingsNext" ∈ nw_t := nw_mem 122 (by decide +kernel) (by decide +kernel)
theorem lk_X8_118 : Cond.fieldLinkNest RX8 118 "WhoSingsNext$Reader" "bytes" "I" "WhoSingsNext" ∈ nw_t := nw_mem 191 (by decide +kernel) (by decide +kernel)
theorem lk_X8_121 : Cond.fieldLinkNest RX8 121 "WhoSingsNext$Reader" "fault" "I" "WhoSingsNext" ∈ nw_t := nw_mem 201 (by decide +kernel) (by decide +kernel)
theorem lk_X8_124 : Cond.fieldLinkNest RX8 124 "WhoSingsNext$House" "rule" "I" "WhoSingsNext" ∈ nw_t := nw_mem 162 (by decide +kernel) (by decide +kernel)
theorem lk_X8_156 : Cond.fieldLinkNest RX8 156 "WhoSingsNext$Evening" "mood" "I" "WhoSingsNext" ∈ nw_t := nw_mem 249 (by decide +kernel) (by decide +kernel)
theorem lk_X8_159 : Cond.fieldLinkNest RX8 159 "WhoSingsNext$Evening" "bar" "I" "WhoSingsNext" ∈ nw_t := nw_mem 252 (by decide +kernel) (by decide +kernel)
theorem lk_X8_162 : Cond.fieldLinkNest RX8 162 "WhoSingsNext$Evening" "begins" "[I" "WhoSingsNext" ∈ nw_t := nw_mem 245 (by decide +kernel) (by decide +kernel)
theorem lk_X8_166 : Cond.fieldLinkNest RX8 166 "WhoSingsNext$House" "slipCount" "I" "WhoSingsNext" ∈ nw_t := nw_mem 155 (by decide +kernel) (by decide +kernel)
theorem lk_X8_175 : Cond.fieldLinkNest RX8 175 "WhoSingsNext$Evening" "left" "I" "WhoSingsNext" ∈ nw_t := nw_mem 255 (by decide +kernel) (by decide +kernel)
theorem lk_X8_181 : Cond.fieldLinkNest RX8 181 "WhoSingsNext$Sheet" "sort" "I" "WhoSingsNext" ∈ nw_t := nw_mem 555 (by decide +kernel) (by decide +kernel)
theorem lk_X8_188 : Cond.fieldLinkNest RX8 188 "WhoSingsNext$Slip" "whose" "I" "WhoSingsNext" ∈ nw_t := nw_mem 134 (by decide +kernel) (by decide +kernel)
theorem lk_X8_202 : Cond.fieldLink RX8 202 "WhoSingsNext" "isKept" "Z" ∈ gw_t := gw_mem 567 (by decide +kernel) (by decide +kernel)
theorem lk_X8_206 : Cond.fieldLinkNest RX8 206 "WhoSingsNext$House" "peopleCount" "I" "WhoSingsNext" ∈ nw_t := nw_mem 151 (by decide +kernel) (by decide +kernel)
theorem lk_X8_209 : Cond.fieldLinkNest RX8 209 "WhoSingsNext$House" "mood" "I" "WhoSingsNext" ∈ nw_t := nw_mem 158 (by decide +kernel) (by decide +kernel)
theorem lk_X8_210 : Cond.fieldLinkNest RX8 210 "WhoSingsNext$House" "till" "I" "WhoSingsNext" ∈ nw_t := nw_mem 161 (by decide +kernel) (by decide +kernel)
theorem lk_X8_223 : Cond.fieldLinkNest RX8 223 "WhoSingsNext$Sheet" "items" "[I" "WhoSingsNext" ∈ nw_t := nw_mem 553 (by decide +kernel) (by decide +kernel)
theorem lk_X8_235 : Cond.fieldLinkNest RX8 235 "WhoSingsNext$Slip" "number" "I" "WhoSingsNext" ∈ nw_t := nw_mem 127 (by decide +kernel) (by decide +kernel)
theorem lk_X8_241 : Cond.fieldLinkNest RX8 241 "WhoSingsNext$Sheet" "size" "I" "WhoSingsNext" ∈ nw_t := nw_mem 557 (by decide +kernel) (by decide +kernel)
theorem lk_X8_244 : Cond.fieldLinkNest RX8 244 "WhoSingsNext$Evening" "calls" "I" "WhoSingsNext" ∈ nw_t := nw_mem 243 (by decide +kernel) (by decide +kernel)
theorem lk_X8_247 : Cond.fieldLinkNest RX8 247 "WhoSingsNext$Evening" "row" "[I" "WhoSingsNext" ∈ nw_t := nw_mem 241 (by decide +kernel) (by decide +kernel)
theorem lk_X9_13 : Cond.fieldLink RX9 13 "WhoSingsNextModel" "texts" "[I" ∈ gw_t := gw_mem 930 (by decide +kernel) (by decide +kernel)
theorem lk_X9_17 : Cond.fieldLink RX9 17 "WhoSingsNextModel" "textSize" "[I" ∈ gw_t := gw_mem 931 (by decide +kernel) (by decide +kernel)
theorem lk_X9_20 : Cond.fieldLink RX9 20 "WhoSingsNextModel" "tape" "[I" ∈ gw_t := gw_mem 934 (by decide +kernel) (by decide +kernel)
theorem lk_X9_23 : Cond.fieldLink RX9 23 "WhoSingsNextModel" "patience" "[I" ∈ gw_t := gw_mem 936 (by decide +kernel) (by decide +kernel)
theorem lk_X9_26 : Cond.fieldLink RX9 26 "WhoSingsNextModel" "groups" "[I" ∈ gw_t := gw_mem 937 (by decide +kernel) (by decide +kernel)
theorem lk_X9_29 : Cond.fieldLink RX9 29 "WhoSingsNextModel" "kinds" "[I" ∈ gw_t := gw_mem 939 (by decide +kernel) (by decide +kernel)
theorem lk_X9_32 : Cond.fieldLink RX9 32 "WhoSingsNextModel" "numbers" "[I" ∈ gw_t := gw_mem 940 (by decide +kernel) (by decide +kernel)
theorem lk_X9_35 : Cond.fieldLink RX9 35 "WhoSingsNextModel" "longs" "[I" ∈ gw_t := gw_mem 941 (by decide +kernel) (by decide +kernel)
theorem lk_X9_38 : Cond.fieldLink RX9 38 "WhoSingsNextModel" "owners" "[I" ∈ gw_t := gw_mem 942 (by decide +kernel) (by decide +kernel)
theorem lk_X9_41 : Cond.fieldLink RX9 41 "WhoSingsNextModel" "till" "I" ∈ gw_t := gw_mem 945 (by decide +kernel) (by decide +kernel)
theorem lk_X9_44 : Cond.fieldLink RX9 44 "WhoSingsNextModel" "lastSang" "[I" ∈ gw_t := gw_mem 966 (by decide +kernel) (by decide +kernel)
theorem lk_X9_47 : Cond.fieldLink RX9 47 "WhoSingsNextModel" "sungBy" "[I" ∈ gw_t := gw_mem 967 (by decide +kernel) (by decide +kernel)
theorem lk_X9_50 : Cond.fieldLink RX9 50 "WhoSingsNextModel" "began" "[I" ∈ gw_t := gw_mem 970 (by decide +kernel) (by decide +kernel)
theorem lk_X9_53 : Cond.fieldLink RX9 53 "WhoSingsNextModel" "asideRow" "[I" ∈ gw_t := gw_mem 971 (by decide +kernel) (by decide +kernel)
theorem lk_X9_56 : Cond.fieldLink RX9 56 "WhoSingsNextModel" "asideLast" "[I" ∈ gw_t := gw_mem 972 (by decide +kernel) (by decide +kernel)
theorem lk_X9_59 : Cond.fieldLink RX9 59 "WhoSingsNextModel" "asideSung" "[I" ∈ gw_t := gw_mem 973 (by decide +kernel) (by decide +kernel)
theorem lk_X9_62 : Cond.fieldLink RX9 62 "WhoSingsNextModel" "onesKept" "[I" ∈ gw_t := gw_mem 979 (by decide +kernel) (by decide +kernel)
theorem lk_X9_65 : Cond.fieldLink RX9 65 "WhoSingsNextModel" "slipsKept" "[I" ∈ gw_t := gw_mem 980 (by decide +kernel) (by decide +kernel)
theorem lk_X9_68 : Cond.fieldLink RX9 68 "WhoSingsNextModel" "slipsMany" "I" ∈ gw_t := gw_mem 981 (by decide +kernel) (by decide +kernel)
theorem lk_X9_71 : Cond.fieldLink RX9 71 "WhoSingsNextModel" "isThere" "[Z" ∈ gw_t := gw_mem 986 (by decide +kernel) (by decide +kernel)
theorem lk_X9_75 : Cond.fieldLink RX9 75 "WhoSingsNextModel" "sorts" "[I" ∈ gw_t := gw_mem 987 (by decide +kernel) (by decide +kernel)
theorem lk_X9_78 : Cond.fieldLink RX9 78 "WhoSingsNextModel" "sheetSize" "[I" ∈ gw_t := gw_mem 988 (by decide +kernel) (by decide +kernel)
theorem lk_X9_81 : Cond.fieldLink RX9 81 "WhoSingsNextModel" "items" "[I" ∈ gw_t := gw_mem 989 (by decide +kernel) (by decide +kernel)
theorem lk_X9_88 : Cond.fieldLink RX9 88 "WhoSingsNextModel" "textCount" "I" ∈ gw_t := gw_mem 932 (by decide +kernel) (by decide +kernel)
theorem lk_X9_91 : Cond.fieldLink RX9 91 "WhoSingsNextModel" "people" "I" ∈ gw_t := gw_mem 938 (by decide +kernel) (by decide +kernel)
theorem lk_X9_98 : Cond.fieldLink RX9 98 "WhoSingsNextModel" "slipCount" "I" ∈ gw_t := gw_mem 943 (by decide +kernel) (by decide +kernel)
theorem lk_X9_127 : Cond.fieldLink RX9 127 "WhoSingsNextModel" "mood" "I" ∈ gw_t := gw_mem 944 (by decide +kernel) (by decide +kernel)
theorem lk_X9_132 : Cond.fieldLink RX9 132 "WhoSingsNextModel" "taped" "I" ∈ gw_t := gw_mem 935 (by decide +kernel) (by decide +kernel)
theorem lk_X9_135 : Cond.fieldLink RX9 135 "WhoSingsNextModel" "size" "I" ∈ gw_t := gw_mem 953 (by decide +kernel) (by decide +kernel)
theorem lk_X9_138 : Cond.fieldLink RX9 138 "WhoSingsNextModel" "from" "I" ∈ gw_t := gw_mem 952 (by decide +kernel) (by decide +kernel)
theorem lk_X9_141 : Cond.fieldLink RX9 141 "WhoSingsNextModel" "here" "I" ∈ gw_t := gw_mem 954 (by decide +kernel) (by decide +kernel)
theorem lk_X9_148 : Cond.fieldLink RX9 148 "WhoSingsNextModel" "tokenAt" "I" ∈ gw_t := gw_mem 956 (by decide +kernel) (by decide +kernel)
theorem lk_X9_151 : Cond.fieldLink RX9 151 "WhoSingsNextModel" "token" "I" ∈ gw_t := gw_mem 955 (by decide +kernel) (by decide +kernel)
theorem lk_X9_162 : Cond.fieldLink RX9 162 "WhoSingsNextModel" "tokenWorth" "J" ∈ gw_t := gw_mem 957 (by decide +kernel) (by decide +kernel)
theorem lk_X9_166 : Cond.fieldLink RX9 166 "WhoSingsNextModel" "bad" "Z" ∈ gw_t := gw_mem 959 (by decide +kernel) (by decide +kernel)
theorem lk_X9_170 : Cond.fieldLink RX9 170 "WhoSingsNextModel" "fault" "I" ∈ gw_t := gw_mem 960 (by decide +kernel) (by decide +kernel)
theorem lk_X9_177 : Cond.fieldLink RX9 177 "WhoSingsNextModel" "open" "I" ∈ gw_t := gw_mem 958 (by decide +kernel) (by decide +kernel)
theorem lk_X9_190 : Cond.fieldLink RX9 190 "WhoSingsNextModel" "ofMinute" "I" ∈ gw_t := gw_mem 946 (by decide +kernel) (by decide +kernel)
theorem lk_X9_193 : Cond.fieldLink RX9 193 "WhoSingsNextModel" "ofWaited" "I" ∈ gw_t := gw_mem 947 (by decide +kernel) (by decide +kernel)
theorem lk_X9_196 : Cond.fieldLink RX9 196 "WhoSingsNextModel" "ofSung" "I" ∈ gw_t := gw_mem 948 (by decide +kernel) (by decide +kernel)
theorem lk_X9_199 : Cond.fieldLink RX9 199 "WhoSingsNextModel" "ofSort" "I" ∈ gw_t := gw_mem 949 (by decide +kernel) (by decide +kernel)
theorem lk_X9_202 : Cond.fieldLink RX9 202 "WhoSingsNextModel" "ofBar" "I" ∈ gw_t := gw_mem 950 (by decide +kernel) (by decide +kernel)
theorem lk_X9_205 : Cond.fieldLink RX9 205 "WhoSingsNextModel" "ofMood" "I" ∈ gw_t := gw_mem 951 (by decide +kernel) (by decide +kernel)
theorem lk_X9_249 : Cond.fieldLink RX9 249 "WhoSingsNextModel" "rule" "I" ∈ gw_t := gw_mem 933 (by decide +kernel) (by decide +kernel)
theorem lk_X9_252 : Cond.fieldLink RX9 252 "WhoSingsNextModel" "minute" "I" ∈ gw_t := gw_mem 961 (by decide +kernel) (by decide +kernel)
theorem lk_X9_255 : Cond.fieldLink RX9 255 "WhoSingsNextModel" "bar" "I" ∈ gw_t := gw_mem 963 (by decide +kernel) (by decide +kernel)
theorem lk_X9_258 : Cond.fieldLink RX9 258 "WhoSingsNextModel" "moodNow" "I" ∈ gw_t := gw_mem 962 (by decide +kernel) (by decide +kernel)
theorem lk_X9_265 : Cond.fieldLink RX9 265 "WhoSingsNextModel" "there" "I" ∈ gw_t := gw_mem 964 (by decide +kernel) (by decide +kernel)
theorem lk_X9_268 : Cond.fieldLink RX9 268 "WhoSingsNextModel" "sungMany" "I" ∈ gw_t := gw_mem 965 (by decide +kernel) (by decide +kernel)
theorem lk_X9_271 : Cond.fieldLink RX9 271 "WhoSingsNextModel" "called" "I" ∈ gw_t := gw_mem 968 (by decide +kernel) (by decide +kernel)
theorem lk_X9_274 : Cond.fieldLink RX9 274 "WhoSingsNextModel" "sungSet" "I" ∈ gw_t := gw_mem 969 (by decide +kernel) (by decide +kernel)
theorem lk_X9_315 : Cond.fieldLink RX9 315 "WhoSingsNextModel" "bestBar" "I" ∈ gw_t := gw_mem 975 (by decide +kernel) (by decide +kernel)
theorem lk_X9_318 : Cond.fieldLink RX9 318 "WhoSingsNextModel" "bestLeft" "I" ∈ gw_t := gw_mem 976 (by decide +kernel) (by decide +kernel)
theorem lk_X9_321 : Cond.fieldLink RX9 321 "WhoSingsNextModel" "bestSung" "I" ∈ gw_t := gw_mem 977 (by decide +kernel) (by decide +kernel)
theorem lk_X9_327 : Cond.fieldLink RX9 327 "WhoSingsNextModel" "bestRow" "I" ∈ gw_t := gw_mem 974 (by decide +kernel) (by decide +kernel)
theorem lk_X9_342 : Cond.fieldLink RX9 342 "WhoSingsNextModel" "deskRow" "I" ∈ gw_t := gw_mem 978 (by decide +kernel) (by decide +kernel)
theorem lk_X9_371 : Cond.fieldLink RX9 371 "WhoSingsNextModel" "peopleKept" "I" ∈ gw_t := gw_mem 982 (by decide +kernel) (by decide +kernel)
theorem lk_X9_374 : Cond.fieldLink RX9 374 "WhoSingsNextModel" "moodKept" "I" ∈ gw_t := gw_mem 983 (by decide +kernel) (by decide +kernel)
theorem lk_X9_377 : Cond.fieldLink RX9 377 "WhoSingsNextModel" "tillKept" "I" ∈ gw_t := gw_mem 984 (by decide +kernel) (by decide +kernel)
theorem lk_X9_380 : Cond.fieldLink RX9 380 "WhoSingsNextModel" "ruleKept" "I" ∈ gw_t := gw_mem 985 (by decide +kernel) (by decide +kernel)
theorem lk_X1_51 : Cond.fieldLinkNest RX1 51 "WhoSingsNext$Slip" "kind" "I" "WhoSingsNext" ∈ nw_t := nw_mem 123 (by decide +kernel) (by decide +kernel)
theorem cw_J0_charAt_5068e : Cond.code yJ0_charAt_5068e cJ0_charAt_5068e 2 (some .char) ∈ gw_t := gw_mem 339 (by decide +kernel) (by decide +kernel)
theorem ny_J0_charAt_5068e : yJ0_charAt_5068e.cls ≠ "java/lang/invoke/MethodHandle" ∧ yJ0_charAt_5068e.cls ≠ "java/lang/invoke/VarHandle" ∧ (parseMethodDescriptor yJ0_charAt_5068e.desc).map (fun d => d.parameters.length) = some 1 := by decide +kernel
theorem cw_J0_checkBoundsBeginEnd_23922 : Cond.code yJ0_checkBoundsBeginEnd_23922 cJ0_checkBoundsBeginEnd_23922 3 none ∈ gw_t := gw_mem 457 (by decide +kernel) (by decide +kernel)
theorem ny_J0_checkBoundsBeginEnd_23922 : yJ0_checkBoundsBeginEnd_23922.cls ≠ "java/lang/invoke/MethodHandle" ∧ yJ0_checkBoundsBeginEnd_23922.cls ≠ "java/lang/invoke/VarHandle" ∧ (parseMethodDescriptor yJ0_checkBoundsBeginEnd_23922.desc).map (fun d => d.parameters.length) = some 3 := by decide +kernel
theorem cw_J0_checkIndex_df160 : Cond.code yJ0_checkIndex_df160 cJ0_checkIndex_df160 2 none ∈ gw_t := gw_mem 349 (by decide +kernel) (by decide +kernel)
theorem ny_J0_checkIndex_df160 : yJ0_checkIndex_df160.cls ≠ "java/lang/invoke/MethodHandle" ∧ yJ0_checkIndex_df160.cls ≠ "java/lang/invoke/VarHandle" ∧ (parseMethodDescriptor yJ0_checkIndex_df160.desc).map (fun d => d.parameters.length) = some 2 := by decide +kernel
theorem cw_J0_coder_7d493 : Cond.code yJ0_coder_7d493 cJ0_coder_7d493 1 (some .byte) ∈ gw_t := gw_mem 333 (by decide +kernel) (by decide +kernel)
theorem ny_J0_coder_7d493 : yJ0_coder_7d493.cls ≠ "java/lang/invoke/MethodHandle" ∧ yJ0_coder_7d493.cls ≠ "java/lang/invoke/VarHandle" ∧ (parseMethodDescriptor yJ0_coder_7d493.desc).map (fun d => d.parameters.length) = some 0 := by decide +kernel
theorem cw_J0_indexOf_0f7a4 : Cond.code yJ0_indexOf_0f7a4 cJ0_indexOf_0f7a4 2 (some .int) ∈ gw_t := gw_mem 422 (by decide +kernel) (by decide +kernel)
theorem ny_J0_indexOf_0f7a4 : yJ0_indexOf_0f7a4.cls ≠ "java/lang/invoke/MethodHandle" ∧ yJ0_indexOf_0f7a4.cls ≠ "java/lang/invoke/VarHandle" ∧ (parseMethodDescriptor yJ0_indexOf_0f7a4.desc).map (fun d => d.parameters.length) = some 1 := by decide +kernel
theorem cw_J0_indexOf_7cf53 : Cond.code yJ0_indexOf_7cf53 cJ0_indexOf_7cf53 3 (some .int) ∈ gw_t := gw_mem 426 (by decide +kernel) (by decide +kernel)
theorem ny_J0_indexOf_7cf53 : yJ0_indexOf_7cf53.cls ≠ "java/lang/invoke/MethodHandle" ∧ yJ0_indexOf_7cf53.cls ≠ "java/lang/invoke/VarHandle" ∧ (parseMethodDescriptor yJ0_indexOf_7cf53.desc).map (fun d => d.parameters.length) = some 2 := by decide +kernel
theorem cw_J0_isLatin1_aae02 : Cond.code yJ0_isLatin1_aae02 cJ0_isLatin1_aae02 1 (some .boolean) ∈ gw_t := gw_mem 343 (by decide +kernel) (by decide +kernel)
theorem ny_J0_isLatin1_aae02 : yJ0_isLatin1_aae02.cls ≠ "java/lang/invoke/MethodHandle" ∧ yJ0_isLatin1_aae02.cls ≠ "java/lang/invoke/VarHandle" ∧ (parseMethodDescriptor yJ0_isLatin1_aae02.desc).map (fun d => d.parameters.length) = some 0 := by decide +kernel
theorem cw_J0_length_8abf5 : Cond.code yJ0_length_8abf5 cJ0_length_8abf5 1 (some .int) ∈ gw_t := gw_mem 329 (by decide +kernel) (by decide +kernel)
theorem ny_J0_length_8abf5 : yJ0_length_8abf5.cls ≠ "java/lang/invoke/MethodHandle" ∧ yJ0_length_8abf5.cls ≠ "java/lang/invoke/VarHandle" ∧ (parseMethodDescriptor yJ0_length_8abf5.desc).map (fun d => d.parameters.length) = some 0 := by decide +kernel
theorem cw_J11_highSurrogate_5068e : Cond.code yJ11_highSurrogate_5068e cJ11_highSurrogate_5068e 1 (some .char) ∈ gw_t := gw_mem 472 (by decide +kernel) (by decide +kernel)
theorem ny_J11_highSurrogate_5068e : yJ11_highSurrogate_5068e.cls ≠ "java/lang/invoke/MethodHandle" ∧ yJ11_highSurrogate_5068e.cls ≠ "java/lang/invoke/VarHandle" ∧ (parseMethodDescriptor yJ11_highSurrogate_5068e.desc).map (fun d => d.parameters.length) = some 1 := by decide +kernel
theorem cw_J11_isValidCodePoint_9a6ad : Cond.code yJ11_isValidCodePoint_9a6ad cJ11_isValidCodePoint_9a6ad 2 (some .boolean) ∈ gw_t := gw_mem 469 (by decide +kernel) (by decide +kernel)
theorem ny_J11_isValidCodePoint_9a6ad : yJ11_isValidCodePoint_9a6ad.cls ≠ "java/lang/invoke/MethodHandle" ∧ yJ11_isValidCodePoint_9a6ad.cls ≠ "java/lang/invoke/VarHandle" ∧ (parseMethodDescriptor yJ11_isValidCodePoint_9a6ad.desc).map (fun d => d.parameters.length) = some 1 := by decide +kernel
theorem cw_J11_lowSurrogate_5068e : Cond.code yJ11_lowSurrogate_5068e cJ11_lowSurrogate_5068e 1 (some .char) ∈ gw_t := gw_mem 476 (by decide +kernel) (by decide +kernel)
theorem ny_J11_lowSurrogate_5068e : yJ11_lowSurrogate_5068e.cls ≠ "java/lang/invoke/MethodHandle" ∧ yJ11_lowSurrogate_5068e.cls ≠ "java/lang/invoke/VarHandle" ∧ (parseMethodDescriptor yJ11_lowSurrogate_5068e.desc).map (fun d => d.parameters.length) = some 1 := by decide +kernel
theorem cw_J1_canEncode_9a6ad : Cond.code yJ1_canEncode_9a6ad cJ1_canEncode_9a6ad 1 (some .boolean) ∈ gw_t := gw_mem 433 (by decide +kernel) (by decide +kernel)
theorem ny_J1_canEncode_9a6ad : yJ1_canEncode_9a6ad.cls ≠ "java/lang/invoke/MethodHandle" ∧ yJ1_canEncode_9a6ad.cls ≠ "java/lang/invoke/VarHandle" ∧ (parseMethodDescriptor yJ1_canEncode_9a6ad.desc).map (fun d => d.parameters.length) = some 1 := by decide +kernel
theorem cw_J1_charAt_3b067 : Cond.code yJ1_charAt_3b067 cJ1_charAt_3b067 2 (some .char) ∈ gw_t := gw_mem 346 (by decide +kernel) (by decide +kernel)
theorem ny_J1_charAt_3b067 : yJ1_charAt_3b067.cls ≠ "java/lang/invoke/MethodHandle" ∧ yJ1_charAt_3b067.cls ≠ "java/lang/invoke/VarHandle" ∧ (parseMethodDescriptor yJ1_charAt_3b067.desc).map (fun d => d.parameters.length) = some 2 := by decide +kernel
theorem cw_J1_indexOfChar_4cfef : Cond.code yJ1_indexOfChar_4cfef cJ1_indexOfChar_4cfef 6 (some .int) ∈ gw_t := gw_mem 442 (by decide +kernel) (by decide +kernel)
theorem ny_J1_indexOfChar_4cfef : yJ1_indexOfChar_4cfef.cls ≠ "java/lang/invoke/MethodHandle" ∧ yJ1_indexOfChar_4cfef.cls ≠ "java/lang/invoke/VarHandle" ∧ (parseMethodDescriptor yJ1_indexOfChar_4cfef.desc).map (fun d => d.parameters.length) = some 4 := by decide +kernel
theorem cw_J1_indexOf_4cfef : Cond.code yJ1_indexOf_4cfef cJ1_indexOf_4cfef 4 (some .int) ∈ gw_t := gw_mem 430 (by decide +kernel) (by decide +kernel)
theorem ny_J1_indexOf_4cfef : yJ1_indexOf_4cfef.cls ≠ "java/lang/invoke/MethodHandle" ∧ yJ1_indexOf_4cfef.cls ≠ "java/lang/invoke/VarHandle" ∧ (parseMethodDescriptor yJ1_indexOf_4cfef.desc).map (fun d => d.parameters.length) = some 4 := by decide +kernel
theorem cw_J2_charAt_3b067 : Cond.code yJ2_charAt_3b067 cJ2_charAt_3b067 2 (some .char) ∈ gw_t := gw_mem 357 (by decide +kernel) (by decide +kernel)
theorem ny_J2_charAt_3b067 : yJ2_charAt_3b067.cls ≠ "java/lang/invoke/MethodHandle" ∧ yJ2_charAt_3b067.cls ≠ "java/lang/invoke/VarHandle" ∧ (parseMethodDescriptor yJ2_charAt_3b067.desc).map (fun d => d.parameters.length) = some 2 := by decide +kernel
theorem cw_J2_checkBoundsBeginEnd_d044e : Cond.code yJ2_checkBoundsBeginEnd_d044e cJ2_checkBoundsBeginEnd_d044e 3 none ∈ gw_t := gw_mem 454 (by decide +kernel) (by decide +kernel)
theorem ny_J2_checkBoundsBeginEnd_d044e : yJ2_checkBoundsBeginEnd_d044e.cls ≠ "java/lang/invoke/MethodHandle" ∧ yJ2_checkBoundsBeginEnd_d044e.cls ≠ "java/lang/invoke/VarHandle" ∧ (parseMethodDescriptor yJ2_checkBoundsBeginEnd_d044e.desc).map (fun d => d.parameters.length) = some 3 := by decide +kernel
theorem cw_J2_checkIndex_2214a : Cond.code yJ2_checkIndex_2214a cJ2_checkIndex_2214a 2 none ∈ gw_t := gw_mem 360 (by decide +kernel) (by decide +kernel)
theorem ny_J2_checkIndex_2214a : yJ2_checkIndex_2214a.cls ≠ "java/lang/invoke/MethodHandle" ∧ yJ2_checkIndex_2214a.cls ≠ "java/lang/invoke/VarHandle" ∧ (parseMethodDescriptor yJ2_checkIndex_2214a.desc).map (fun d => d.parameters.length) = some 2 := by decide +kernel
theorem cw_J2_getChar_3b067 : Cond.code yJ2_getChar_3b067 cJ2_getChar_3b067 2 (some .char) ∈ gw_t := gw_mem 367 (by decide +kernel) (by decide +kernel)
theorem ny_J2_getChar_3b067 : yJ2_getChar_3b067.cls ≠ "java/lang/invoke/MethodHandle" ∧ yJ2_getChar_3b067.cls ≠ "java/lang/invoke/VarHandle" ∧ (parseMethodDescriptor yJ2_getChar_3b067.desc).map (fun d => d.parameters.length) = some 2 := by decide +kernel
theorem cw_J2_indexOfCharUnsafe_4cfef : Cond.code yJ2_indexOfCharUnsafe_4cfef cJ2_indexOfCharUnsafe_4cfef 5 (some .int) ∈ gw_t := gw_mem 463 (by decide +kernel) (by decide +kernel)
theorem ny_J2_indexOfCharUnsafe_4cfef : yJ2_indexOfCharUnsafe_4cfef.cls ≠ "java/lang/invoke/MethodHandle" ∧ yJ2_indexOfCharUnsafe_4cfef.cls ≠ "java/lang/invoke/VarHandle" ∧ (parseMethodDescriptor yJ2_indexOfCharUnsafe_4cfef.desc).map (fun d => d.parameters.length) = some 4 := by decide +kernel
theorem cw_J2_indexOfChar_4cfef : Cond.code yJ2_indexOfChar_4cfef cJ2_indexOfChar_4cfef 4 (some .int) ∈ gw_t := gw_mem 451 (by decide +kernel) (by decide +kernel)
theorem ny_J2_indexOfChar_4cfef : yJ2_indexOfChar_4cfef.cls ≠ "java/lang/invoke/MethodHandle" ∧ yJ2_indexOfChar_4cfef.cls ≠ "java/lang/invoke/VarHandle" ∧ (parseMethodDescriptor yJ2_indexOfChar_4cfef.desc).map (fun d => d.parameters.length) = some 4 := by decide +kernel
theorem cw_J2_indexOfSupplementary_4cfef : Cond.code yJ2_indexOfSupplementary_4cfef cJ2_indexOfSupplementary_4cfef 7 (some .int) ∈ gw_t := gw_mem 466 (by decide +kernel) (by decide +kernel)
theorem ny_J2_indexOfSupplementary_4cfef : yJ2_indexOfSupplementary_4cfef.cls ≠ "java/lang/invoke/MethodHandle" ∧ yJ2_indexOfSupplementary_4cfef.cls ≠ "java/lang/invoke/VarHandle" ∧ (parseMethodDescriptor yJ2_indexOfSupplementary_4cfef.desc).map (fun d => d.parameters.length) = some 4 := by decide +kernel
theorem cw_J2_indexOf_4cfef : Cond.code yJ2_indexOf_4cfef cJ2_indexOf_4cfef 4 (some .int) ∈ gw_t := gw_mem 445 (by decide +kernel) (by decide +kernel)
theorem ny_J2_indexOf_4cfef : yJ2_indexOf_4cfef.cls ≠ "java/lang/invoke/MethodHandle" ∧ yJ2_indexOf_4cfef.cls ≠ "java/lang/invoke/VarHandle" ∧ (parseMethodDescriptor yJ2_indexOf_4cfef.desc).map (fun d => d.parameters.length) = some 4 := by decide +kernel
theorem cw_J2_length_9d52b : Cond.code yJ2_length_9d52b cJ2_length_9d52b 1 (some .int) ∈ gw_t := gw_mem 363 (by decide +kernel) (by decide +kernel)
theorem ny_J2_length_9d52b : yJ2_length_9d52b.cls ≠ "java/lang/invoke/MethodHandle" ∧ yJ2_length_9d52b.cls ≠ "java/lang/invoke/VarHandle" ∧ (parseMethodDescriptor yJ2_length_9d52b.desc).map (fun d => d.parameters.length) = some 1 := by decide +kernel
theorem cw_J3_checkFromToIndex_8c36e : Cond.code yJ3_checkFromToIndex_8c36e cJ3_checkFromToIndex_8c36e 4 (some .int) ∈ gw_t := gw_mem 460 (by decide +kernel) (by decide +kernel)
theorem ny_J3_checkFromToIndex_8c36e : yJ3_checkFromToIndex_8c36e.cls ≠ "java/lang/invoke/MethodHandle" ∧ yJ3_checkFromToIndex_8c36e.cls ≠ "java/lang/invoke/VarHandle" ∧ (parseMethodDescriptor yJ3_checkFromToIndex_8c36e.desc).map (fun d => d.parameters.length) = some 4 := by decide +kernel
theorem cw_J3_checkIndex_8e157 : Cond.code yJ3_checkIndex_8e157 cJ3_checkIndex_8e157 3 (some .int) ∈ gw_t := gw_mem 354 (by decide +kernel) (by decide +kernel)
theorem ny_J3_checkIndex_8e157 : yJ3_checkIndex_8e157.cls ≠ "java/lang/invoke/MethodHandle" ∧ yJ3_checkIndex_8e157.cls ≠ "java/lang/invoke/VarHandle" ∧ (parseMethodDescriptor yJ3_checkIndex_8e157.desc).map (fun d => d.parameters.length) = some 3 := by decide +kernel
theorem cw_J6_bitCount_0f7a4 : Cond.code yJ6_bitCount_0f7a4 cJ6_bitCount_0f7a4 1 (some .int) ∈ gw_t := gw_mem 724 (by decide +kernel) (by decide +kernel)
theorem ny_J6_bitCount_0f7a4 : yJ6_bitCount_0f7a4.cls ≠ "java/lang/invoke/MethodHandle" ∧ yJ6_bitCount_0f7a4.cls ≠ "java/lang/invoke/VarHandle" ∧ (parseMethodDescriptor yJ6_bitCount_0f7a4.desc).map (fun d => d.parameters.length) = some 1 := by decide +kernel
theorem cw_J7_copyOf_59c91 : Cond.code yJ7_copyOf_59c91 cJ7_copyOf_59c91 3 (some (.array .int)) ∈ gw_t := gw_mem 517 (by decide +kernel) (by decide +kernel)
theorem ny_J7_copyOf_59c91 : yJ7_copyOf_59c91.cls ≠ "java/lang/invoke/MethodHandle" ∧ yJ7_copyOf_59c91.cls ≠ "java/lang/invoke/VarHandle" ∧ (parseMethodDescriptor yJ7_copyOf_59c91.desc).map (fun d => d.parameters.length) = some 2 := by decide +kernel
theorem cw_J7_fill_53178 : Cond.code yJ7_fill_53178 cJ7_fill_53178 4 none ∈ gw_t := gw_mem 679 (by decide +kernel) (by decide +kernel)
theorem ny_J7_fill_53178 : yJ7_fill_53178.cls ≠ "java/lang/invoke/MethodHandle" ∧ yJ7_fill_53178.cls ≠ "java/lang/invoke/VarHandle" ∧ (parseMethodDescriptor yJ7_fill_53178.desc).map (fun d => d.parameters.length) = some 2 := by decide +kernel
theorem cw_J9_max_7cf53 : Cond.code yJ9_max_7cf53 cJ9_max_7cf53 2 (some .int) ∈ gw_t := gw_mem 436 (by decide +kernel) (by decide +kernel)
theorem ny_J9_max_7cf53 : yJ9_max_7cf53.cls ≠ "java/lang/invoke/MethodHandle" ∧ yJ9_max_7cf53.cls ≠ "java/lang/invoke/VarHandle" ∧ (parseMethodDescriptor yJ9_max_7cf53.desc).map (fun d => d.parameters.length) = some 2 := by decide +kernel
theorem cw_J9_min_7cf53 : Cond.code yJ9_min_7cf53 cJ9_min_7cf53 2 (some .int) ∈ gw_t := gw_mem 439 (by decide +kernel) (by decide +kernel)
theorem ny_J9_min_7cf53 : yJ9_min_7cf53.cls ≠ "java/lang/invoke/MethodHandle" ∧ yJ9_min_7cf53.cls ≠ "java/lang/invoke/VarHandle" ∧ (parseMethodDescriptor yJ9_min_7cf53.desc).map (fun d => d.parameters.length) = some 2 := by decide +kernel
theorem cw_X0_answer : Cond.code yX0_answer cX0_answer 2 (some .int) ∈ gw_t := gw_mem 740 (by decide +kernel) (by decide +kernel)
theorem ny_X0_answer : yX0_answer.cls ≠ "java/lang/invoke/MethodHandle" ∧ yX0_answer.cls ≠ "java/lang/invoke/VarHandle" ∧ (parseMethodDescriptor yX0_answer.desc).map (fun d => d.parameters.length) = some 1 := by decide +kernel
theorem cw_X0_begin : Cond.code yX0_begin cX0_begin 2 none ∈ gw_t := gw_mem 676 (by decide +kernel) (by decide +kernel)
theorem ny_X0_begin : yX0_begin.cls ≠ "java/lang/invoke/MethodHandle" ∧ yX0_begin.cls ≠ "java/lang/invoke/VarHandle" ∧ (parseMethodDescriptor yX0_begin.desc).map (fun d => d.parameters.length) = some 1 := by decide +kernel
theorem cw_X0_callByChance : Cond.code yX0_callByChance cX0_callByChance 4 none ∈ gw_t := gw_mem 844 (by decide +kernel) (by decide +kernel)
theorem ny_X0_callByChance : yX0_callByChance.cls ≠ "java/lang/invoke/MethodHandle" ∧ yX0_callByChance.cls ≠ "java/lang/invoke/VarHandle" ∧ (parseMethodDescriptor yX0_callByChance.desc).map (fun d => d.parameters.length) = some 1 := by decide +kernel
theorem cw_X0_callByDesk : Cond.code yX0_callByDesk cX0_callByDesk 2 none ∈ gw_t := gw_mem 792 (by decide +kernel) (by decide +kernel)
theorem ny_X0_callByDesk : yX0_callByDesk.cls ≠ "java/lang/invoke/MethodHandle" ∧ yX0_callByDesk.cls ≠ "java/lang/invoke/VarHandle" ∧ (parseMethodDescriptor yX0_callByDesk.desc).map (fun d => d.parameters.length) = some 0 := by decide +kernel
theorem cw_X0_callRow : Cond.code yX0_callRow cX0_callRow 3 none ∈ gw_t := gw_mem 683 (by decide +kernel) (by decide +kernel)
theorem ny_X0_callRow : yX0_callRow.cls ≠ "java/lang/invoke/MethodHandle" ∧ yX0_callRow.cls ≠ "java/lang/invoke/VarHandle" ∧ (parseMethodDescriptor yX0_callRow.desc).map (fun d => d.parameters.length) = some 1 := by decide +kernel
theorem cw_X0_callSlip : Cond.code yX0_callSlip cX0_callSlip 5 none ∈ gw_t := gw_mem 688 (by decide +kernel) (by decide +kernel)
theorem ny_X0_callSlip : yX0_callSlip.cls ≠ "java/lang/invoke/MethodHandle" ∧ yX0_callSlip.cls ≠ "java/lang/invoke/VarHandle" ∧ (parseMethodDescriptor yX0_callSlip.desc).map (fun d => d.parameters.length) = some 1 := by decide +kernel
theorem cw_X0_firstByDesk : Cond.code yX0_firstByDesk cX0_firstByDesk 7 (some .int) ∈ gw_t := gw_mem 796 (by decide +kernel) (by decide +kernel)
theorem ny_X0_firstByDesk : yX0_firstByDesk.cls ≠ "java/lang/invoke/MethodHandle" ∧ yX0_firstByDesk.cls ≠ "java/lang/invoke/VarHandle" ∧ (parseMethodDescriptor yX0_firstByDesk.desc).map (fun d => d.parameters.length) = some 0 := by decide +kernel
theorem cw_X0_goOnFrom : Cond.code yX0_goOnFrom cX0_goOnFrom 2 none ∈ gw_t := gw_mem 766 (by decide +kernel) (by decide +kernel)
theorem ny_X0_goOnFrom : yX0_goOnFrom.cls ≠ "java/lang/invoke/MethodHandle" ∧ yX0_goOnFrom.cls ≠ "java/lang/invoke/VarHandle" ∧ (parseMethodDescriptor yX0_goOnFrom.desc).map (fun d => d.parameters.length) = some 1 := by decide +kernel
theorem cw_X0_init : Cond.code yX0_init cX0_init 2 none ∈ gw_t := gw_mem 232 (by decide +kernel) (by decide +kernel)
theorem ny_X0_init : yX0_init.cls ≠ "java/lang/invoke/MethodHandle" ∧ yX0_init.cls ≠ "java/lang/invoke/VarHandle" ∧ (parseMethodDescriptor yX0_init.desc).map (fun d => d.parameters.length) = some 1 := by decide +kernel
theorem cw_X0_leaveOut : Cond.code yX0_leaveOut cX0_leaveOut 2 none ∈ gw_t := gw_mem 788 (by decide +kernel) (by decide +kernel)
theorem ny_X0_leaveOut : yX0_leaveOut.cls ≠ "java/lang/invoke/MethodHandle" ∧ yX0_leaveOut.cls ≠ "java/lang/invoke/VarHandle" ∧ (parseMethodDescriptor yX0_leaveOut.desc).map (fun d => d.parameters.length) = some 1 := by decide +kernel
theorem cw_X0_letLeave : Cond.code yX0_letLeave cX0_letLeave 5 none ∈ gw_t := gw_mem 736 (by decide +kernel) (by decide +kernel)
theorem ny_X0_letLeave : yX0_letLeave.cls ≠ "java/lang/invoke/MethodHandle" ∧ yX0_letLeave.cls ≠ "java/lang/invoke/VarHandle" ∧ (parseMethodDescriptor yX0_letLeave.desc).map (fun d => d.parameters.length) = some 0 := by decide +kernel
theorem cw_X0_nameAll : Cond.code yX0_nameAll cX0_nameAll 4 none ∈ gw_t := gw_mem 714 (by decide +kernel) (by decide +kernel)
theorem ny_X0_nameAll : yX0_nameAll.cls ≠ "java/lang/invoke/MethodHandle" ∧ yX0_nameAll.cls ≠ "java/lang/invoke/VarHandle" ∧ (parseMethodDescriptor yX0_nameAll.desc).map (fun d => d.parameters.length) = some 3 := by decide +kernel
theorem cw_X0_rowAsDigits : Cond.code yX0_rowAsDigits cX0_rowAsDigits 3 (some .int) ∈ gw_t := gw_mem 744 (by decide +kernel) (by decide +kernel)
theorem ny_X0_rowAsDigits : yX0_rowAsDigits.cls ≠ "java/lang/invoke/MethodHandle" ∧ yX0_rowAsDigits.cls ≠ "java/lang/invoke/VarHandle" ∧ (parseMethodDescriptor yX0_rowAsDigits.desc).map (fun d => d.parameters.length) = some 0 := by decide +kernel
theorem cw_X0_uncalled : Cond.code yX0_uncalled cX0_uncalled 4 (some .int) ∈ gw_t := gw_mem 849 (by decide +kernel) (by decide +kernel)
theorem ny_X0_uncalled : yX0_uncalled.cls ≠ "java/lang/invoke/MethodHandle" ∧ yX0_uncalled.cls ≠ "java/lang/invoke/VarHandle" ∧ (parseMethodDescriptor yX0_uncalled.desc).map (fun d => d.parameters.length) = some 1 := by decide +kernel
theorem cw_X0_wasCalled : Cond.code yX0_wasCalled cX0_wasCalled 2 (some .boolean) ∈ gw_t := gw_mem 693 (by decide +kernel) (by decide +kernel)
theorem ny_X0_wasCalled : yX0_wasCalled.cls ≠ "java/lang/invoke/MethodHandle" ∧ yX0_wasCalled.cls ≠ "java/lang/invoke/VarHandle" ∧ (parseMethodDescriptor yX0_wasCalled.desc).map (fun d => d.parameters.length) = some 1 := by decide +kernel
theorem cw_X0_wouldBeSung : Cond.code yX0_wouldBeSung cX0_wouldBeSung 3 (some .boolean) ∈ gw_t := gw_mem 697 (by decide +kernel) (by decide +kernel)
theorem ny_X0_wouldBeSung : yX0_wouldBeSung.cls ≠ "java/lang/invoke/MethodHandle" ∧ yX0_wouldBeSung.cls ≠ "java/lang/invoke/VarHandle" ∧ (parseMethodDescriptor yX0_wouldBeSung.desc).map (fun d => d.parameters.length) = some 1 := by decide +kernel
theorem cw_X1_addPerson : Cond.code yX1_addPerson cX1_addPerson 3 (some .int) ∈ gw_t := gw_mem 608 (by decide +kernel) (by decide +kernel)
theorem ny_X1_addPerson : yX1_addPerson.cls ≠ "java/lang/invoke/MethodHandle" ∧ yX1_addPerson.cls ≠ "java/lang/invoke/VarHandle" ∧ (parseMethodDescriptor yX1_addPerson.desc).map (fun d => d.parameters.length) = some 2 := by decide +kernel
theorem cw_X1_addSlip : Cond.code yX1_addSlip cX1_addSlip 5 (some .int) ∈ gw_t := gw_mem 616 (by decide +kernel) (by decide +kernel)
theorem ny_X1_addSlip : yX1_addSlip.cls ≠ "java/lang/invoke/MethodHandle" ∧ yX1_addSlip.cls ≠ "java/lang/invoke/VarHandle" ∧ (parseMethodDescriptor yX1_addSlip.desc).map (fun d => d.parameters.length) = some 3 := by decide +kernel
theorem cw_X1_allows : Cond.code yX1_allows cX1_allows 3 (some .boolean) ∈ gw_t := gw_mem 600 (by decide +kernel) (by decide +kernel)
theorem ny_X1_allows : yX1_allows.cls ≠ "java/lang/invoke/MethodHandle" ∧ yX1_allows.cls ≠ "java/lang/invoke/VarHandle" ∧ (parseMethodDescriptor yX1_allows.desc).map (fun d => d.parameters.length) = some 2 := by decide +kernel
theorem cw_X1_become : Cond.code yX1_become cX1_become 3 none ∈ gw_t := gw_mem 865 (by decide +kernel) (by decide +kernel)
theorem ny_X1_become : yX1_become.cls ≠ "java/lang/invoke/MethodHandle" ∧ yX1_become.cls ≠ "java/lang/invoke/VarHandle" ∧ (parseMethodDescriptor yX1_become.desc).map (fun d => d.parameters.length) = some 1 := by decide +kernel
theorem cw_X1_change : Cond.code yX1_change cX1_change 4 none ∈ gw_t := gw_mem 638 (by decide +kernel) (by decide +kernel)
theorem ny_X1_change : yX1_change.cls ≠ "java/lang/invoke/MethodHandle" ∧ yX1_change.cls ≠ "java/lang/invoke/VarHandle" ∧ (parseMethodDescriptor yX1_change.desc).map (fun d => d.parameters.length) = some 3 := by decide +kernel
theorem cw_X1_follow : Cond.code yX1_follow cX1_follow 2 none ∈ gw_t := gw_mem 660 (by decide +kernel) (by decide +kernel)
theorem ny_X1_follow : yX1_follow.cls ≠ "java/lang/invoke/MethodHandle" ∧ yX1_follow.cls ≠ "java/lang/invoke/VarHandle" ∧ (parseMethodDescriptor yX1_follow.desc).map (fun d => d.parameters.length) = some 1 := by decide +kernel
theorem cw_X1_groupOf : Cond.code yX1_groupOf cX1_groupOf 2 (some .int) ∈ gw_t := gw_mem 701 (by decide +kernel) (by decide +kernel)
theorem ny_X1_groupOf : yX1_groupOf.cls ≠ "java/lang/invoke/MethodHandle" ∧ yX1_groupOf.cls ≠ "java/lang/invoke/VarHandle" ∧ (parseMethodDescriptor yX1_groupOf.desc).map (fun d => d.parameters.length) = some 1 := by decide +kernel
theorem cw_X1_hasPerson : Cond.code yX1_hasPerson cX1_hasPerson 2 (some .boolean) ∈ gw_t := gw_mem 604 (by decide +kernel) (by decide +kernel)
theorem ny_X1_hasPerson : yX1_hasPerson.cls ≠ "java/lang/invoke/MethodHandle" ∧ yX1_hasPerson.cls ≠ "java/lang/invoke/VarHandle" ∧ (parseMethodDescriptor yX1_hasPerson.desc).map (fun d => d.parameters.length) = some 1 := by decide +kernel
theorem cw_X1_hasSlip : Cond.code yX1_hasSlip cX1_hasSlip 2 (some .boolean) ∈ gw_t := gw_mem 628 (by decide +kernel) (by decide +kernel)
theorem ny_X1_hasSlip : yX1_hasSlip.cls ≠ "java/lang/invoke/MethodHandle" ∧ yX1_hasSlip.cls ≠ "java/lang/invoke/VarHandle" ∧ (parseMethodDescriptor yX1_hasSlip.desc).map (fun d => d.parameters.length) = some 1 := by decide +kernel
theorem cw_X1_hasValue : Cond.code yX1_hasValue cX1_hasValue 3 (some .boolean) ∈ gw_t := gw_mem 624 (by decide +kernel) (by decide +kernel)
theorem ny_X1_hasValue : yX1_hasValue.cls ≠ "java/lang/invoke/MethodHandle" ∧ yX1_hasValue.cls ≠ "java/lang/invoke/VarHandle" ∧ (parseMethodDescriptor yX1_hasValue.desc).map (fun d => d.parameters.length) = some 2 := by decide +kernel
theorem cw_X1_init : Cond.code yX1_init cX1_init 2 none ∈ gw_t := gw_mem 94 (by decide +kernel) (by decide +kernel)
theorem ny_X1_init : yX1_init.cls ≠ "java/lang/invoke/MethodHandle" ∧ yX1_init.cls ≠ "java/lang/invoke/VarHandle" ∧ (parseMethodDescriptor yX1_init.desc).map (fun d => d.parameters.length) = some 0 := by decide +kernel
theorem cw_X1_isRow : Cond.code yX1_isRow cX1_isRow 5 (some .boolean) ∈ gw_t := gw_mem 668 (by decide +kernel) (by decide +kernel)
theorem ny_X1_isRow : yX1_isRow.cls ≠ "java/lang/invoke/MethodHandle" ∧ yX1_isRow.cls ≠ "java/lang/invoke/VarHandle" ∧ (parseMethodDescriptor yX1_isRow.desc).map (fun d => d.parameters.length) = some 1 := by decide +kernel
theorem cw_X1_valueOf : Cond.code yX1_valueOf cX1_valueOf 3 (some .int) ∈ gw_t := gw_mem 633 (by decide +kernel) (by decide +kernel)
theorem ny_X1_valueOf : yX1_valueOf.cls ≠ "java/lang/invoke/MethodHandle" ∧ yX1_valueOf.cls ≠ "java/lang/invoke/VarHandle" ∧ (parseMethodDescriptor yX1_valueOf.desc).map (fun d => d.parameters.length) = some 2 := by decide +kernel
theorem cw_X2_become : Cond.code yX2_become cX2_become 2 none ∈ gw_t := gw_mem 869 (by decide +kernel) (by decide +kernel)
theorem ny_X2_become : yX2_become.cls ≠ "java/lang/invoke/MethodHandle" ∧ yX2_become.cls ≠ "java/lang/invoke/VarHandle" ∧ (parseMethodDescriptor yX2_become.desc).map (fun d => d.parameters.length) = some 1 := by decide +kernel
theorem cw_X2_init : Cond.code yX2_init cX2_init 1 none ∈ gw_t := gw_mem 103 (by decide +kernel) (by decide +kernel)
theorem ny_X2_init : yX2_init.cls ≠ "java/lang/invoke/MethodHandle" ∧ yX2_init.cls ≠ "java/lang/invoke/VarHandle" ∧ (parseMethodDescriptor yX2_init.desc).map (fun d => d.parameters.length) = some 0 := by decide +kernel
theorem cw_X3_add : Cond.code yX3_add cX3_add 2 (some .boolean) ∈ gw_t := gw_mem 377 (by decide +kernel) (by decide +kernel)
theorem ny_X3_add : yX3_add.cls ≠ "java/lang/invoke/MethodHandle" ∧ yX3_add.cls ≠ "java/lang/invoke/VarHandle" ∧ (parseMethodDescriptor yX3_add.desc).map (fun d => d.parameters.length) = some 1 := by decide +kernel
theorem cw_X3_emit : Cond.code yX3_emit cX3_emit 2 none ∈ gw_t := gw_mem 497 (by decide +kernel) (by decide +kernel)
theorem ny_X3_emit : yX3_emit.cls ≠ "java/lang/invoke/MethodHandle" ∧ yX3_emit.cls ≠ "java/lang/invoke/VarHandle" ∧ (parseMethodDescriptor yX3_emit.desc).map (fun d => d.parameters.length) = some 1 := by decide +kernel
theorem cw_X3_fail : Cond.code yX3_fail cX3_fail 1 none ∈ gw_t := gw_mem 485 (by decide +kernel) (by decide +kernel)
theorem ny_X3_fail : yX3_fail.cls ≠ "java/lang/invoke/MethodHandle" ∧ yX3_fail.cls ≠ "java/lang/invoke/VarHandle" ∧ (parseMethodDescriptor yX3_fail.desc).map (fun d => d.parameters.length) = some 0 := by decide +kernel
theorem cw_X3_init : Cond.code yX3_init cX3_init 1 none ∈ gw_t := gw_mem 187 (by decide +kernel) (by decide +kernel)
theorem ny_X3_init : yX3_init.cls ≠ "java/lang/invoke/MethodHandle" ∧ yX3_init.cls ≠ "java/lang/invoke/VarHandle" ∧ (parseMethodDescriptor yX3_init.desc).map (fun d => d.parameters.length) = some 0 := by decide +kernel
theorem cw_X3_isDigit : Cond.code yX3_isDigit cX3_isDigit 1 (some .boolean) ∈ gw_t := gw_mem 413 (by decide +kernel) (by decide +kernel)
theorem ny_X3_isDigit : yX3_isDigit.cls ≠ "java/lang/invoke/MethodHandle" ∧ yX3_isDigit.cls ≠ "java/lang/invoke/VarHandle" ∧ (parseMethodDescriptor yX3_isDigit.desc).map (fun d => d.parameters.length) = some 1 := by decide +kernel
theorem cw_X3_isLetter : Cond.code yX3_isLetter cX3_isLetter 1 (some .boolean) ∈ gw_t := gw_mem 388 (by decide +kernel) (by decide +kernel)
theorem ny_X3_isLetter : yX3_isLetter.cls ≠ "java/lang/invoke/MethodHandle" ∧ yX3_isLetter.cls ≠ "java/lang/invoke/VarHandle" ∧ (parseMethodDescriptor yX3_isLetter.desc).map (fun d => d.parameters.length) = some 1 := by decide +kernel
theorem cw_X3_isName : Cond.code yX3_isName cX3_isName 1 (some .boolean) ∈ gw_t := gw_mem 500 (by decide +kernel) (by decide +kernel)
theorem ny_X3_isName : yX3_isName.cls ≠ "java/lang/invoke/MethodHandle" ∧ yX3_isName.cls ≠ "java/lang/invoke/VarHandle" ∧ (parseMethodDescriptor yX3_isName.desc).map (fun d => d.parameters.length) = some 1 := by decide +kernel
theorem cw_X3_joins : Cond.code yX3_joins cX3_joins 2 (some .boolean) ∈ gw_t := gw_mem 508 (by decide +kernel) (by decide +kernel)
theorem ny_X3_joins : yX3_joins.cls ≠ "java/lang/invoke/MethodHandle" ∧ yX3_joins.cls ≠ "java/lang/invoke/VarHandle" ∧ (parseMethodDescriptor yX3_joins.desc).map (fun d => d.parameters.length) = some 1 := by decide +kernel
theorem cw_X3_made : Cond.code yX3_made cX3_made 1 (some (.object "WhoSingsNext$Text")) ∈ gw_t := gw_mem 512 (by decide +kernel) (by decide +kernel)
theorem ny_X3_made : yX3_made.cls ≠ "java/lang/invoke/MethodHandle" ∧ yX3_made.cls ≠ "java/lang/invoke/VarHandle" ∧ (parseMethodDescriptor yX3_made.desc).map (fun d => d.parameters.length) = some 0 := by decide +kernel
theorem cw_X3_pass : Cond.code yX3_pass cX3_pass 2 none ∈ gw_t := gw_mem 481 (by decide +kernel) (by decide +kernel)
theorem ny_X3_pass : yX3_pass.cls ≠ "java/lang/invoke/MethodHandle" ∧ yX3_pass.cls ≠ "java/lang/invoke/VarHandle" ∧ (parseMethodDescriptor yX3_pass.desc).map (fun d => d.parameters.length) = some 1 := by decide +kernel
theorem cw_X3_readLevel : Cond.code yX3_readLevel cX3_readLevel 6 none ∈ gw_t := gw_mem 489 (by decide +kernel) (by decide +kernel)
theorem ny_X3_readLevel : yX3_readLevel.cls ≠ "java/lang/invoke/MethodHandle" ∧ yX3_readLevel.cls ≠ "java/lang/invoke/VarHandle" ∧ (parseMethodDescriptor yX3_readLevel.desc).map (fun d => d.parameters.length) = some 2 := by decide +kernel
theorem cw_X3_readNot : Cond.code yX3_readNot cX3_readNot 2 none ∈ gw_t := gw_mem 504 (by decide +kernel) (by decide +kernel)
theorem ny_X3_readNot : yX3_readNot.cls ≠ "java/lang/invoke/MethodHandle" ∧ yX3_readNot.cls ≠ "java/lang/invoke/VarHandle" ∧ (parseMethodDescriptor yX3_readNot.desc).map (fun d => d.parameters.length) = some 1 := by decide +kernel
theorem cw_X3_readNumber : Cond.code yX3_readNumber cX3_readNumber 1 none ∈ gw_t := gw_mem 417 (by decide +kernel) (by decide +kernel)
theorem ny_X3_readNumber : yX3_readNumber.cls ≠ "java/lang/invoke/MethodHandle" ∧ yX3_readNumber.cls ≠ "java/lang/invoke/VarHandle" ∧ (parseMethodDescriptor yX3_readNumber.desc).map (fun d => d.parameters.length) = some 0 := by decide +kernel
theorem cw_X3_readOne : Cond.code yX3_readOne cX3_readOne 2 none ∈ gw_t := gw_mem 493 (by decide +kernel) (by decide +kernel)
theorem ny_X3_readOne : yX3_readOne.cls ≠ "java/lang/invoke/MethodHandle" ∧ yX3_readOne.cls ≠ "java/lang/invoke/VarHandle" ∧ (parseMethodDescriptor yX3_readOne.desc).map (fun d => d.parameters.length) = some 1 := by decide +kernel
theorem cw_X3_readTape : Cond.code yX3_readTape cX3_readTape 1 (some .boolean) ∈ gw_t := gw_mem 381 (by decide +kernel) (by decide +kernel)
theorem ny_X3_readTape : yX3_readTape.cls ≠ "java/lang/invoke/MethodHandle" ∧ yX3_readTape.cls ≠ "java/lang/invoke/VarHandle" ∧ (parseMethodDescriptor yX3_readTape.desc).map (fun d => d.parameters.length) = some 0 := by decide +kernel
theorem cw_X3_readToken : Cond.code yX3_readToken cX3_readToken 1 none ∈ gw_t := gw_mem 385 (by decide +kernel) (by decide +kernel)
theorem ny_X3_readToken : yX3_readToken.cls ≠ "java/lang/invoke/MethodHandle" ∧ yX3_readToken.cls ≠ "java/lang/invoke/VarHandle" ∧ (parseMethodDescriptor yX3_readToken.desc).map (fun d => d.parameters.length) = some 0 := by decide +kernel
theorem cw_X3_readWord : Cond.code yX3_readWord cX3_readWord 1 none ∈ gw_t := gw_mem 392 (by decide +kernel) (by decide +kernel)
theorem ny_X3_readWord : yX3_readWord.cls ≠ "java/lang/invoke/MethodHandle" ∧ yX3_readWord.cls ≠ "java/lang/invoke/VarHandle" ∧ (parseMethodDescriptor yX3_readWord.desc).map (fun d => d.parameters.length) = some 0 := by decide +kernel
theorem cw_X3_spells : Cond.code yX3_spells cX3_spells 3 (some .boolean) ∈ gw_t := gw_mem 397 (by decide +kernel) (by decide +kernel)
theorem ny_X3_spells : yX3_spells.cls ≠ "java/lang/invoke/MethodHandle" ∧ yX3_spells.cls ≠ "java/lang/invoke/VarHandle" ∧ (parseMethodDescriptor yX3_spells.desc).map (fun d => d.parameters.length) = some 1 := by decide +kernel
theorem cw_X4_answer : Cond.code yX4_answer cX4_answer 3 (some .int) ∈ gw_t := gw_mem 776 (by decide +kernel) (by decide +kernel)
theorem ny_X4_answer : yX4_answer.cls ≠ "java/lang/invoke/MethodHandle" ∧ yX4_answer.cls ≠ "java/lang/invoke/VarHandle" ∧ (parseMethodDescriptor yX4_answer.desc).map (fun d => d.parameters.length) = some 2 := by decide +kernel
theorem cw_X4_goOn : Cond.code yX4_goOn cX4_goOn 6 none ∈ gw_t := gw_mem 761 (by decide +kernel) (by decide +kernel)
theorem ny_X4_goOn : yX4_goOn.cls ≠ "java/lang/invoke/MethodHandle" ∧ yX4_goOn.cls ≠ "java/lang/invoke/VarHandle" ∧ (parseMethodDescriptor yX4_goOn.desc).map (fun d => d.parameters.length) = some 2 := by decide +kernel
theorem cw_X4_init : Cond.code yX4_init cX4_init 3 none ∈ gw_t := gw_mem 296 (by decide +kernel) (by decide +kernel)
theorem ny_X4_init : yX4_init.cls ≠ "java/lang/invoke/MethodHandle" ∧ yX4_init.cls ≠ "java/lang/invoke/VarHandle" ∧ (parseMethodDescriptor yX4_init.desc).map (fun d => d.parameters.length) = some 1 := by decide +kernel
theorem cw_X4_look : Cond.code yX4_look cX4_look 2 none ∈ gw_t := gw_mem 752 (by decide +kernel) (by decide +kernel)
theorem ny_X4_look : yX4_look.cls ≠ "java/lang/invoke/MethodHandle" ∧ yX4_look.cls ≠ "java/lang/invoke/VarHandle" ∧ (parseMethodDescriptor yX4_look.desc).map (fun d => d.parameters.length) = some 1 := by decide +kernel
theorem cw_X4_losesFewer : Cond.code yX4_losesFewer cX4_losesFewer 2 (some .boolean) ∈ gw_t := gw_mem 772 (by decide +kernel) (by decide +kernel)
theorem ny_X4_losesFewer : yX4_losesFewer.cls ≠ "java/lang/invoke/MethodHandle" ∧ yX4_losesFewer.cls ≠ "java/lang/invoke/VarHandle" ∧ (parseMethodDescriptor yX4_losesFewer.desc).map (fun d => d.parameters.length) = some 1 := by decide +kernel
theorem cw_X4_note : Cond.code yX4_note cX4_note 4 none ∈ gw_t := gw_mem 757 (by decide +kernel) (by decide +kernel)
theorem ny_X4_note : yX4_note.cls ≠ "java/lang/invoke/MethodHandle" ∧ yX4_note.cls ≠ "java/lang/invoke/VarHandle" ∧ (parseMethodDescriptor yX4_note.desc).map (fun d => d.parameters.length) = some 3 := by decide +kernel
theorem cw_X5_holds : Cond.code yX5_holds cX5_holds 3 (some .boolean) ∈ gw_t := gw_mem 898 (by decide +kernel) (by decide +kernel)
theorem ny_X5_holds : yX5_holds.cls ≠ "java/lang/invoke/MethodHandle" ∧ yX5_holds.cls ≠ "java/lang/invoke/VarHandle" ∧ (parseMethodDescriptor yX5_holds.desc).map (fun d => d.parameters.length) = some 2 := by decide +kernel
theorem cw_X5_init : Cond.code yX5_init cX5_init 1 none ∈ gw_t := gw_mem 550 (by decide +kernel) (by decide +kernel)
theorem ny_X5_init : yX5_init.cls ≠ "java/lang/invoke/MethodHandle" ∧ yX5_init.cls ≠ "java/lang/invoke/VarHandle" ∧ (parseMethodDescriptor yX5_init.desc).map (fun d => d.parameters.length) = some 0 := by decide +kernel
theorem cw_X5_put : Cond.code yX5_put cX5_put 3 none ∈ gw_t := gw_mem 902 (by decide +kernel) (by decide +kernel)
theorem ny_X5_put : yX5_put.cls ≠ "java/lang/invoke/MethodHandle" ∧ yX5_put.cls ≠ "java/lang/invoke/VarHandle" ∧ (parseMethodDescriptor yX5_put.desc).map (fun d => d.parameters.length) = some 2 := by decide +kernel
theorem cw_X5_remake : Cond.code yX5_remake cX5_remake 3 none ∈ gw_t := gw_mem 889 (by decide +kernel) (by decide +kernel)
theorem ny_X5_remake : yX5_remake.cls ≠ "java/lang/invoke/MethodHandle" ∧ yX5_remake.cls ≠ "java/lang/invoke/VarHandle" ∧ (parseMethodDescriptor yX5_remake.desc).map (fun d => d.parameters.length) = some 2 := by decide +kernel
theorem cw_X6_become : Cond.code yX6_become cX6_become 2 none ∈ gw_t := gw_mem 873 (by decide +kernel) (by decide +kernel)
theorem ny_X6_become : yX6_become.cls ≠ "java/lang/invoke/MethodHandle" ∧ yX6_become.cls ≠ "java/lang/invoke/VarHandle" ∧ (parseMethodDescriptor yX6_become.desc).map (fun d => d.parameters.length) = some 1 := by decide +kernel
theorem cw_X6_init : Cond.code yX6_init cX6_init 1 none ∈ gw_t := gw_mem 119 (by decide +kernel) (by decide +kernel)
theorem ny_X6_init : yX6_init.cls ≠ "java/lang/invoke/MethodHandle" ∧ yX6_init.cls ≠ "java/lang/invoke/VarHandle" ∧ (parseMethodDescriptor yX6_init.desc).map (fun d => d.parameters.length) = some 0 := by decide +kernel
theorem cw_X6_isOf : Cond.code yX6_isOf cX6_isOf 2 (some .boolean) ∈ gw_t := gw_mem 919 (by decide +kernel) (by decide +kernel)
theorem ny_X6_isOf : yX6_isOf.cls ≠ "java/lang/invoke/MethodHandle" ∧ yX6_isOf.cls ≠ "java/lang/invoke/VarHandle" ∧ (parseMethodDescriptor yX6_isOf.desc).map (fun d => d.parameters.length) = some 1 := by decide +kernel
theorem cw_X6_moves : Cond.code yX6_moves cX6_moves 2 (some .int) ∈ gw_t := gw_mem 705 (by decide +kernel) (by decide +kernel)
theorem ny_X6_moves : yX6_moves.cls ≠ "java/lang/invoke/MethodHandle" ∧ yX6_moves.cls ≠ "java/lang/invoke/VarHandle" ∧ (parseMethodDescriptor yX6_moves.desc).map (fun d => d.parameters.length) = some 1 := by decide +kernel
theorem cw_X6_thirst : Cond.code yX6_thirst cX6_thirst 2 (some .int) ∈ gw_t := gw_mem 731 (by decide +kernel) (by decide +kernel)
theorem ny_X6_thirst : yX6_thirst.cls ≠ "java/lang/invoke/MethodHandle" ∧ yX6_thirst.cls ≠ "java/lang/invoke/VarHandle" ∧ (parseMethodDescriptor yX6_thirst.desc).map (fun d => d.parameters.length) = some 1 := by decide +kernel
theorem cw_X7_init : Cond.code yX7_init cX7_init 4 none ∈ gw_t := gw_mem 531 (by decide +kernel) (by decide +kernel)
theorem ny_X7_init : yX7_init.cls ≠ "java/lang/invoke/MethodHandle" ∧ yX7_init.cls ≠ "java/lang/invoke/VarHandle" ∧ (parseMethodDescriptor yX7_init.desc).map (fun d => d.parameters.length) = some 3 := by decide +kernel
theorem cw_X7_joined : Cond.code yX7_joined cX7_joined 3 (some .int) ∈ gw_t := gw_mem 721 (by decide +kernel) (by decide +kernel)
theorem ny_X7_joined : yX7_joined.cls ≠ "java/lang/invoke/MethodHandle" ∧ yX7_joined.cls ≠ "java/lang/invoke/VarHandle" ∧ (parseMethodDescriptor yX7_joined.desc).map (fun d => d.parameters.length) = some 3 := by decide +kernel
theorem cw_X7_worth : Cond.code yX7_worth cX7_worth 9 (some .int) ∈ gw_t := gw_mem 718 (by decide +kernel) (by decide +kernel)
theorem ny_X7_worth : yX7_worth.cls ≠ "java/lang/invoke/MethodHandle" ∧ yX7_worth.cls ≠ "java/lang/invoke/VarHandle" ∧ (parseMethodDescriptor yX7_worth.desc).map (fun d => d.parameters.length) = some 2 := by decide +kernel
theorem cw_X8_back : Cond.code yX8_back cX8_back 1 (some .int) ∈ gw_t := gw_mem 877 (by decide +kernel) (by decide +kernel)
theorem ny_X8_back : yX8_back.cls ≠ "java/lang/invoke/MethodHandle" ∧ yX8_back.cls ≠ "java/lang/invoke/VarHandle" ∧ (parseMethodDescriptor yX8_back.desc).map (fun d => d.parameters.length) = some 0 := by decide +kernel
theorem cw_X8_behind : Cond.code yX8_behind cX8_behind 5 (some .int) ∈ gw_t := gw_mem 836 (by decide +kernel) (by decide +kernel)
theorem ny_X8_behind : yX8_behind.cls ≠ "java/lang/invoke/MethodHandle" ∧ yX8_behind.cls ≠ "java/lang/invoke/VarHandle" ∧ (parseMethodDescriptor yX8_behind.desc).map (fun d => d.parameters.length) = some 0 := by decide +kernel
theorem cw_X8_best : Cond.code yX8_best cX8_best 3 (some .int) ∈ gw_t := gw_mem 748 (by decide +kernel) (by decide +kernel)
theorem ny_X8_best : yX8_best.cls ≠ "java/lang/invoke/MethodHandle" ∧ yX8_best.cls ≠ "java/lang/invoke/VarHandle" ∧ (parseMethodDescriptor yX8_best.desc).map (fun d => d.parameters.length) = some 2 := by decide +kernel
theorem cw_X8_cell : Cond.code yX8_cell cX8_cell 5 (some .int) ∈ gw_t := gw_mem 894 (by decide +kernel) (by decide +kernel)
theorem ny_X8_cell : yX8_cell.cls ≠ "java/lang/invoke/MethodHandle" ∧ yX8_cell.cls ≠ "java/lang/invoke/VarHandle" ∧ (parseMethodDescriptor yX8_cell.desc).map (fun d => d.parameters.length) = some 3 := by decide +kernel
theorem cw_X8_chance : Cond.code yX8_chance cX8_chance 6 (some .long) ∈ gw_t := gw_mem 853 (by decide +kernel) (by decide +kernel)
theorem ny_X8_chance : yX8_chance.cls ≠ "java/lang/invoke/MethodHandle" ∧ yX8_chance.cls ≠ "java/lang/invoke/VarHandle" ∧ (parseMethodDescriptor yX8_chance.desc).map (fun d => d.parameters.length) = some 3 := by decide +kernel
theorem cw_X8_coin : Cond.code yX8_coin cX8_coin 3 (some .int) ∈ gw_t := gw_mem 812 (by decide +kernel) (by decide +kernel)
theorem ny_X8_coin : yX8_coin.cls ≠ "java/lang/invoke/MethodHandle" ∧ yX8_coin.cls ≠ "java/lang/invoke/VarHandle" ∧ (parseMethodDescriptor yX8_coin.desc).map (fun d => d.parameters.length) = some 1 := by decide +kernel
theorem cw_X8_come : Cond.code yX8_come cX8_come 3 (some .int) ∈ gw_t := gw_mem 596 (by decide +kernel) (by decide +kernel)
theorem ny_X8_come : yX8_come.cls ≠ "java/lang/invoke/MethodHandle" ∧ yX8_come.cls ≠ "java/lang/invoke/VarHandle" ∧ (parseMethodDescriptor yX8_come.desc).map (fun d => d.parameters.length) = some 2 := by decide +kernel
theorem cw_X8_commonDivisor : Cond.code yX8_commonDivisor cX8_commonDivisor 3 (some .int) ∈ gw_t := gw_mem 857 (by decide +kernel) (by decide +kernel)
theorem ny_X8_commonDivisor : yX8_commonDivisor.cls ≠ "java/lang/invoke/MethodHandle" ∧ yX8_commonDivisor.cls ≠ "java/lang/invoke/VarHandle" ∧ (parseMethodDescriptor yX8_commonDivisor.desc).map (fun d => d.parameters.length) = some 2 := by decide +kernel
theorem cw_X8_copy : Cond.code yX8_copy cX8_copy 8 (some .int) ∈ gw_t := gw_mem 906 (by decide +kernel) (by decide +kernel)
theorem ny_X8_copy : yX8_copy.cls ≠ "java/lang/invoke/MethodHandle" ∧ yX8_copy.cls ≠ "java/lang/invoke/VarHandle" ∧ (parseMethodDescriptor yX8_copy.desc).map (fun d => d.parameters.length) = some 5 := by decide +kernel
theorem cw_X8_count : Cond.code yX8_count cX8_count 2 (some .int) ∈ gw_t := gw_mem 881 (by decide +kernel) (by decide +kernel)
theorem ny_X8_count : yX8_count.cls ≠ "java/lang/invoke/MethodHandle" ∧ yX8_count.cls ≠ "java/lang/invoke/VarHandle" ∧ (parseMethodDescriptor yX8_count.desc).map (fun d => d.parameters.length) = some 1 := by decide +kernel
theorem cw_X8_desk : Cond.code yX8_desk cX8_desk 2 (some .int) ∈ gw_t := gw_mem 780 (by decide +kernel) (by decide +kernel)
theorem ny_X8_desk : yX8_desk.cls ≠ "java/lang/invoke/MethodHandle" ∧ yX8_desk.cls ≠ "java/lang/invoke/VarHandle" ∧ (parseMethodDescriptor yX8_desk.desc).map (fun d => d.parameters.length) = some 1 := by decide +kernel
theorem cw_X8_drawn : Cond.code yX8_drawn cX8_drawn 2 (some .int) ∈ gw_t := gw_mem 840 (by decide +kernel) (by decide +kernel)
theorem ny_X8_drawn : yX8_drawn.cls ≠ "java/lang/invoke/MethodHandle" ∧ yX8_drawn.cls ≠ "java/lang/invoke/VarHandle" ∧ (parseMethodDescriptor yX8_drawn.desc).map (fun d => d.parameters.length) = some 1 := by decide +kernel
theorem cw_X8_evening : Cond.code yX8_evening cX8_evening 3 (some .int) ∈ gw_t := gw_mem 664 (by decide +kernel) (by decide +kernel)
theorem ny_X8_evening : yX8_evening.cls ≠ "java/lang/invoke/MethodHandle" ∧ yX8_evening.cls ≠ "java/lang/invoke/VarHandle" ∧ (parseMethodDescriptor yX8_evening.desc).map (fun d => d.parameters.length) = some 2 := by decide +kernel
theorem cw_X8_feed : Cond.code yX8_feed cX8_feed 2 (some .int) ∈ gw_t := gw_mem 648 (by decide +kernel) (by decide +kernel)
theorem ny_X8_feed : yX8_feed.cls ≠ "java/lang/invoke/MethodHandle" ∧ yX8_feed.cls ≠ "java/lang/invoke/VarHandle" ∧ (parseMethodDescriptor yX8_feed.desc).map (fun d => d.parameters.length) = some 1 := by decide +kernel
theorem cw_X8_force : Cond.code yX8_force cX8_force 3 (some .int) ∈ gw_t := gw_mem 656 (by decide +kernel) (by decide +kernel)
theorem ny_X8_force : yX8_force.cls ≠ "java/lang/invoke/MethodHandle" ∧ yX8_force.cls ≠ "java/lang/invoke/VarHandle" ∧ (parseMethodDescriptor yX8_force.desc).map (fun d => d.parameters.length) = some 1 := by decide +kernel
theorem cw_X8_harm : Cond.code yX8_harm cX8_harm 3 (some .int) ∈ gw_t := gw_mem 817 (by decide +kernel) (by decide +kernel)
theorem ny_X8_harm : yX8_harm.cls ≠ "java/lang/invoke/MethodHandle" ∧ yX8_harm.cls ≠ "java/lang/invoke/VarHandle" ∧ (parseMethodDescriptor yX8_harm.desc).map (fun d => d.parameters.length) = some 1 := by decide +kernel
theorem cw_X8_hold : Cond.code yX8_hold cX8_hold 2 (some .int) ∈ gw_t := gw_mem 800 (by decide +kernel) (by decide +kernel)
theorem ny_X8_hold : yX8_hold.cls ≠ "java/lang/invoke/MethodHandle" ∧ yX8_hold.cls ≠ "java/lang/invoke/VarHandle" ∧ (parseMethodDescriptor yX8_hold.desc).map (fun d => d.parameters.length) = some 1 := by decide +kernel
theorem cw_X8_image : Cond.code yX8_image cX8_image 1 (some .int) ∈ gw_t := gw_mem 861 (by decide +kernel) (by decide +kernel)
theorem ny_X8_image : yX8_image.cls ≠ "java/lang/invoke/MethodHandle" ∧ yX8_image.cls ≠ "java/lang/invoke/VarHandle" ∧ (parseMethodDescriptor yX8_image.desc).map (fun d => d.parameters.length) = some 0 := by decide +kernel
theorem cw_X8_init : Cond.code yX8_init cX8_init 3 none ∈ gw_t := gw_mem 86 (by decide +kernel) (by decide +kernel)
theorem ny_X8_init : yX8_init.cls ≠ "java/lang/invoke/MethodHandle" ∧ yX8_init.cls ≠ "java/lang/invoke/VarHandle" ∧ (parseMethodDescriptor yX8_init.desc).map (fun d => d.parameters.length) = some 0 := by decide +kernel
theorem cw_X8_isSheet : Cond.code yX8_isSheet cX8_isSheet 1 (some .boolean) ∈ gw_t := gw_mem 824 (by decide +kernel) (by decide +kernel)
theorem ny_X8_isSheet : yX8_isSheet.cls ≠ "java/lang/invoke/MethodHandle" ∧ yX8_isSheet.cls ≠ "java/lang/invoke/VarHandle" ∧ (parseMethodDescriptor yX8_isSheet.desc).map (fun d => d.parameters.length) = some 1 := by decide +kernel
theorem cw_X8_judge : Cond.code yX8_judge cX8_judge 2 (some .int) ∈ gw_t := gw_mem 821 (by decide +kernel) (by decide +kernel)
theorem ny_X8_judge : yX8_judge.cls ≠ "java/lang/invoke/MethodHandle" ∧ yX8_judge.cls ≠ "java/lang/invoke/VarHandle" ∧ (parseMethodDescriptor yX8_judge.desc).map (fun d => d.parameters.length) = some 1 := by decide +kernel
theorem cw_X8_judged : Cond.code yX8_judged cX8_judged 4 (some .int) ∈ gw_t := gw_mem 828 (by decide +kernel) (by decide +kernel)
theorem ny_X8_judged : yX8_judged.cls ≠ "java/lang/invoke/MethodHandle" ∧ yX8_judged.cls ≠ "java/lang/invoke/VarHandle" ∧ (parseMethodDescriptor yX8_judged.desc).map (fun d => d.parameters.length) = some 2 := by decide +kernel
theorem cw_X8_refuse : Cond.code yX8_refuse cX8_refuse 5 (some .int) ∈ gw_t := gw_mem 808 (by decide +kernel) (by decide +kernel)
theorem ny_X8_refuse : yX8_refuse.cls ≠ "java/lang/invoke/MethodHandle" ∧ yX8_refuse.cls ≠ "java/lang/invoke/VarHandle" ∧ (parseMethodDescriptor yX8_refuse.desc).map (fun d => d.parameters.length) = some 1 := by decide +kernel
theorem cw_X8_rule : Cond.code yX8_rule cX8_rule 1 (some (.object "WhoSingsNext$Text")) ∈ gw_t := gw_mem 672 (by decide +kernel) (by decide +kernel)
theorem ny_X8_rule : yX8_rule.cls ≠ "java/lang/invoke/MethodHandle" ∧ yX8_rule.cls ≠ "java/lang/invoke/VarHandle" ∧ (parseMethodDescriptor yX8_rule.desc).map (fun d => d.parameters.length) = some 0 := by decide +kernel
theorem cw_X8_runDesk : Cond.code yX8_runDesk cX8_runDesk 3 none ∈ gw_t := gw_mem 784 (by decide +kernel) (by decide +kernel)
theorem ny_X8_runDesk : yX8_runDesk.cls ≠ "java/lang/invoke/MethodHandle" ∧ yX8_runDesk.cls ≠ "java/lang/invoke/VarHandle" ∧ (parseMethodDescriptor yX8_runDesk.desc).map (fun d => d.parameters.length) = some 2 := by decide +kernel
theorem cw_X8_set : Cond.code yX8_set cX8_set 5 (some .int) ∈ gw_t := gw_mem 620 (by decide +kernel) (by decide +kernel)
theorem ny_X8_set : yX8_set.cls ≠ "java/lang/invoke/MethodHandle" ∧ yX8_set.cls ≠ "java/lang/invoke/VarHandle" ∧ (parseMethodDescriptor yX8_set.desc).map (fun d => d.parameters.length) = some 3 := by decide +kernel
theorem cw_X8_sheet : Cond.code yX8_sheet cX8_sheet 4 (some .int) ∈ gw_t := gw_mem 885 (by decide +kernel) (by decide +kernel)
theorem ny_X8_sheet : yX8_sheet.cls ≠ "java/lang/invoke/MethodHandle" ∧ yX8_sheet.cls ≠ "java/lang/invoke/VarHandle" ∧ (parseMethodDescriptor yX8_sheet.desc).map (fun d => d.parameters.length) = some 3 := by decide +kernel
theorem cw_X8_slip : Cond.code yX8_slip cX8_slip 4 (some .int) ∈ gw_t := gw_mem 612 (by decide +kernel) (by decide +kernel)
theorem ny_X8_slip : yX8_slip.cls ≠ "java/lang/invoke/MethodHandle" ∧ yX8_slip.cls ≠ "java/lang/invoke/VarHandle" ∧ (parseMethodDescriptor yX8_slip.desc).map (fun d => d.parameters.length) = some 3 := by decide +kernel
theorem cw_X8_slips : Cond.code yX8_slips cX8_slips 9 (some .int) ∈ gw_t := gw_mem 911 (by decide +kernel) (by decide +kernel)
theorem ny_X8_slips : yX8_slips.cls ≠ "java/lang/invoke/MethodHandle" ∧ yX8_slips.cls ≠ "java/lang/invoke/VarHandle" ∧ (parseMethodDescriptor yX8_slips.desc).map (fun d => d.parameters.length) = some 4 := by decide +kernel
theorem cw_X8_taken : Cond.code yX8_taken cX8_taken 3 (some .int) ∈ gw_t := gw_mem 915 (by decide +kernel) (by decide +kernel)
theorem ny_X8_taken : yX8_taken.cls ≠ "java/lang/invoke/MethodHandle" ∧ yX8_taken.cls ≠ "java/lang/invoke/VarHandle" ∧ (parseMethodDescriptor yX8_taken.desc).map (fun d => d.parameters.length) = some 2 := by decide +kernel
theorem cw_X8_text : Cond.code yX8_text cX8_text 1 (some .int) ∈ gw_t := gw_mem 652 (by decide +kernel) (by decide +kernel)
theorem ny_X8_text : yX8_text.cls ≠ "java/lang/invoke/MethodHandle" ∧ yX8_text.cls ≠ "java/lang/invoke/VarHandle" ∧ (parseMethodDescriptor yX8_text.desc).map (fun d => d.parameters.length) = some 0 := by decide +kernel
theorem cw_X8_told : Cond.code yX8_told cX8_told 3 (some .int) ∈ gw_t := gw_mem 643 (by decide +kernel) (by decide +kernel)
theorem ny_X8_told : yX8_told.cls ≠ "java/lang/invoke/MethodHandle" ∧ yX8_told.cls ≠ "java/lang/invoke/VarHandle" ∧ (parseMethodDescriptor yX8_told.desc).map (fun d => d.parameters.length) = some 2 := by decide +kernel
theorem cw_X8_wait : Cond.code yX8_wait cX8_wait 2 (some .int) ∈ gw_t := gw_mem 804 (by decide +kernel) (by decide +kernel)
theorem ny_X8_wait : yX8_wait.cls ≠ "java/lang/invoke/MethodHandle" ∧ yX8_wait.cls ≠ "java/lang/invoke/VarHandle" ∧ (parseMethodDescriptor yX8_wait.desc).map (fun d => d.parameters.length) = some 1 := by decide +kernel
theorem cw_X8_which : Cond.code yX8_which cX8_which 4 (some .int) ∈ gw_t := gw_mem 832 (by decide +kernel) (by decide +kernel)
theorem ny_X8_which : yX8_which.cls ≠ "java/lang/invoke/MethodHandle" ∧ yX8_which.cls ≠ "java/lang/invoke/VarHandle" ∧ (parseMethodDescriptor yX8_which.desc).map (fun d => d.parameters.length) = some 1 := by decide +kernel
theorem cw_X8_within : Cond.code yX8_within cX8_within 3 (some .int) ∈ gw_t := gw_mem 708 (by decide +kernel) (by decide +kernel)
theorem ny_X8_within : yX8_within.cls ≠ "java/lang/invoke/MethodHandle" ∧ yX8_within.cls ≠ "java/lang/invoke/VarHandle" ∧ (parseMethodDescriptor yX8_within.desc).map (fun d => d.parameters.length) = some 3 := by decide +kernel
theorem cw_X9_added : Cond.code yX9_added cX9_added 4 (some .int) ∈ gw_t := gw_mem 1211 (by decide +kernel) (by decide +kernel)
theorem ny_X9_added : yX9_added.cls ≠ "java/lang/invoke/MethodHandle" ∧ yX9_added.cls ≠ "java/lang/invoke/VarHandle" ∧ (parseMethodDescriptor yX9_added.desc).map (fun d => d.parameters.length) = some 0 := by decide +kernel
theorem cw_X9_atom : Cond.code yX9_atom cX9_atom 2 (some .int) ∈ gw_t := gw_mem 1219 (by decide +kernel) (by decide +kernel)
theorem ny_X9_atom : yX9_atom.cls ≠ "java/lang/invoke/MethodHandle" ∧ yX9_atom.cls ≠ "java/lang/invoke/VarHandle" ∧ (parseMethodDescriptor yX9_atom.desc).map (fun d => d.parameters.length) = some 0 := by decide +kernel
theorem cw_X9_back : Cond.code yX9_back cX9_back 2 (some .int) ∈ gw_t := gw_mem 1389 (by decide +kernel) (by decide +kernel)
theorem ny_X9_back : yX9_back.cls ≠ "java/lang/invoke/MethodHandle" ∧ yX9_back.cls ≠ "java/lang/invoke/VarHandle" ∧ (parseMethodDescriptor yX9_back.desc).map (fun d => d.parameters.length) = some 0 := by decide +kernel
theorem cw_X9_begins : Cond.code yX9_begins cX9_begins 2 none ∈ gw_t := gw_mem 1249 (by decide +kernel) (by decide +kernel)
theorem ny_X9_begins : yX9_begins.cls ≠ "java/lang/invoke/MethodHandle" ∧ yX9_begins.cls ≠ "java/lang/invoke/VarHandle" ∧ (parseMethodDescriptor yX9_begins.desc).map (fun d => d.parameters.length) = some 0 := by decide +kernel
theorem cw_X9_behind : Cond.code yX9_behind cX9_behind 4 (some .int) ∈ gw_t := gw_mem 1366 (by decide +kernel) (by decide +kernel)
theorem ny_X9_behind : yX9_behind.cls ≠ "java/lang/invoke/MethodHandle" ∧ yX9_behind.cls ≠ "java/lang/invoke/VarHandle" ∧ (parseMethodDescriptor yX9_behind.desc).map (fun d => d.parameters.length) = some 0 := by decide +kernel
theorem cw_X9_best : Cond.code yX9_best cX9_best 3 (some .int) ∈ gw_t := gw_mem 1294 (by decide +kernel) (by decide +kernel)
theorem ny_X9_best : yX9_best.cls ≠ "java/lang/invoke/MethodHandle" ∧ yX9_best.cls ≠ "java/lang/invoke/VarHandle" ∧ (parseMethodDescriptor yX9_best.desc).map (fun d => d.parameters.length) = some 2 := by decide +kernel
theorem cw_X9_bitsOf : Cond.code yX9_bitsOf cX9_bitsOf 3 (some .int) ∈ gw_t := gw_mem 1270 (by decide +kernel) (by decide +kernel)
theorem ny_X9_bitsOf : yX9_bitsOf.cls ≠ "java/lang/invoke/MethodHandle" ∧ yX9_bitsOf.cls ≠ "java/lang/invoke/VarHandle" ∧ (parseMethodDescriptor yX9_bitsOf.desc).map (fun d => d.parameters.length) = some 1 := by decide +kernel
theorem cw_X9_both : Cond.code yX9_both cX9_both 3 (some .int) ∈ gw_t := gw_mem 1199 (by decide +kernel) (by decide +kernel)
theorem ny_X9_both : yX9_both.cls ≠ "java/lang/invoke/MethodHandle" ∧ yX9_both.cls ≠ "java/lang/invoke/VarHandle" ∧ (parseMethodDescriptor yX9_both.desc).map (fun d => d.parameters.length) = some 0 := by decide +kernel
theorem cw_X9_byteAt : Cond.code yX9_byteAt cX9_byteAt 2 (some .int) ∈ gw_t := gw_mem 1171 (by decide +kernel) (by decide +kernel)
theorem ny_X9_byteAt : yX9_byteAt.cls ≠ "java/lang/invoke/MethodHandle" ∧ yX9_byteAt.cls ≠ "java/lang/invoke/VarHandle" ∧ (parseMethodDescriptor yX9_byteAt.desc).map (fun d => d.parameters.length) = some 1 := by decide +kernel
theorem cw_X9_calls : Cond.code yX9_calls cX9_calls 6 none ∈ gw_t := gw_mem 1256 (by decide +kernel) (by decide +kernel)
theorem ny_X9_calls : yX9_calls.cls ≠ "java/lang/invoke/MethodHandle" ∧ yX9_calls.cls ≠ "java/lang/invoke/VarHandle" ∧ (parseMethodDescriptor yX9_calls.desc).map (fun d => d.parameters.length) = some 1 := by decide +kernel
theorem cw_X9_canSing : Cond.code yX9_canSing cX9_canSing 2 (some .boolean) ∈ gw_t := gw_mem 1260 (by decide +kernel) (by decide +kernel)
theorem ny_X9_canSing : yX9_canSing.cls ≠ "java/lang/invoke/MethodHandle" ∧ yX9_canSing.cls ≠ "java/lang/invoke/VarHandle" ∧ (parseMethodDescriptor yX9_canSing.desc).map (fun d => d.parameters.length) = some 1 := by decide +kernel
theorem cw_X9_cell : Cond.code yX9_cell cX9_cell 4 (some .int) ∈ gw_t := gw_mem 1402 (by decide +kernel) (by decide +kernel)
theorem ny_X9_cell : yX9_cell.cls ≠ "java/lang/invoke/MethodHandle" ∧ yX9_cell.cls ≠ "java/lang/invoke/VarHandle" ∧ (parseMethodDescriptor yX9_cell.desc).map (fun d => d.parameters.length) = some 3 := by decide +kernel
theorem cw_X9_chance : Cond.code yX9_chance cX9_chance 12 (some .long) ∈ gw_t := gw_mem 1379 (by decide +kernel) (by decide +kernel)
theorem ny_X9_chance : yX9_chance.cls ≠ "java/lang/invoke/MethodHandle" ∧ yX9_chance.cls ≠ "java/lang/invoke/VarHandle" ∧ (parseMethodDescriptor yX9_chance.desc).map (fun d => d.parameters.length) = some 3 := by decide +kernel
theorem cw_X9_coin : Cond.code yX9_coin cX9_coin 3 (some .int) ∈ gw_t := gw_mem 1339 (by decide +kernel) (by decide +kernel)
theorem ny_X9_coin : yX9_coin.cls ≠ "java/lang/invoke/MethodHandle" ∧ yX9_coin.cls ≠ "java/lang/invoke/VarHandle" ∧ (parseMethodDescriptor yX9_coin.desc).map (fun d => d.parameters.length) = some 1 := by decide +kernel
theorem cw_X9_come : Cond.code yX9_come cX9_come 3 (some .int) ∈ gw_t := gw_mem 1117 (by decide +kernel) (by decide +kernel)
theorem ny_X9_come : yX9_come.cls ≠ "java/lang/invoke/MethodHandle" ∧ yX9_come.cls ≠ "java/lang/invoke/VarHandle" ∧ (parseMethodDescriptor yX9_come.desc).map (fun d => d.parameters.length) = some 2 := by decide +kernel
theorem cw_X9_copy : Cond.code yX9_copy cX9_copy 9 (some .int) ∈ gw_t := gw_mem 1406 (by decide +kernel) (by decide +kernel)
theorem ny_X9_copy : yX9_copy.cls ≠ "java/lang/invoke/MethodHandle" ∧ yX9_copy.cls ≠ "java/lang/invoke/VarHandle" ∧ (parseMethodDescriptor yX9_copy.desc).map (fun d => d.parameters.length) = some 5 := by decide +kernel
theorem cw_X9_count : Cond.code yX9_count cX9_count 2 (some .int) ∈ gw_t := gw_mem 1393 (by decide +kernel) (by decide +kernel)
theorem ny_X9_count : yX9_count.cls ≠ "java/lang/invoke/MethodHandle" ∧ yX9_count.cls ≠ "java/lang/invoke/VarHandle" ∧ (parseMethodDescriptor yX9_count.desc).map (fun d => d.parameters.length) = some 1 := by decide +kernel
theorem cw_X9_desk : Cond.code yX9_desk cX9_desk 2 (some .int) ∈ gw_t := gw_mem 1315 (by decide +kernel) (by decide +kernel)
theorem ny_X9_desk : yX9_desk.cls ≠ "java/lang/invoke/MethodHandle" ∧ yX9_desk.cls ≠ "java/lang/invoke/VarHandle" ∧ (parseMethodDescriptor yX9_desk.desc).map (fun d => d.parameters.length) = some 1 := by decide +kernel
theorem cw_X9_deskCalls : Cond.code yX9_deskCalls cX9_deskCalls 7 (some .int) ∈ gw_t := gw_mem 1327 (by decide +kernel) (by decide +kernel)
theorem ny_X9_deskCalls : yX9_deskCalls.cls ≠ "java/lang/invoke/MethodHandle" ∧ yX9_deskCalls.cls ≠ "java/lang/invoke/VarHandle" ∧ (parseMethodDescriptor yX9_deskCalls.desc).map (fun d => d.parameters.length) = some 1 := by decide +kernel
theorem cw_X9_desks : Cond.code yX9_desks cX9_desks 2 none ∈ gw_t := gw_mem 1319 (by decide +kernel) (by decide +kernel)
theorem ny_X9_desks : yX9_desks.cls ≠ "java/lang/invoke/MethodHandle" ∧ yX9_desks.cls ≠ "java/lang/invoke/VarHandle" ∧ (parseMethodDescriptor yX9_desks.desc).map (fun d => d.parameters.length) = some 1 := by decide +kernel
theorem cw_X9_drawn : Cond.code yX9_drawn cX9_drawn 2 (some .int) ∈ gw_t := gw_mem 1370 (by decide +kernel) (by decide +kernel)
theorem ny_X9_drawn : yX9_drawn.cls ≠ "java/lang/invoke/MethodHandle" ∧ yX9_drawn.cls ≠ "java/lang/invoke/VarHandle" ∧ (parseMethodDescriptor yX9_drawn.desc).map (fun d => d.parameters.length) = some 1 := by decide +kernel
theorem cw_X9_draws : Cond.code yX9_draws cX9_draws 6 none ∈ gw_t := gw_mem 1374 (by decide +kernel) (by decide +kernel)
theorem ny_X9_draws : yX9_draws.cls ≠ "java/lang/invoke/MethodHandle" ∧ yX9_draws.cls ≠ "java/lang/invoke/VarHandle" ∧ (parseMethodDescriptor yX9_draws.desc).map (fun d => d.parameters.length) = some 1 := by decide +kernel
theorem cw_X9_either : Cond.code yX9_either cX9_either 3 (some .int) ∈ gw_t := gw_mem 1195 (by decide +kernel) (by decide +kernel)
theorem ny_X9_either : yX9_either.cls ≠ "java/lang/invoke/MethodHandle" ∧ yX9_either.cls ≠ "java/lang/invoke/VarHandle" ∧ (parseMethodDescriptor yX9_either.desc).map (fun d => d.parameters.length) = some 0 := by decide +kernel
theorem cw_X9_evening : Cond.code yX9_evening cX9_evening 3 (some .int) ∈ gw_t := gw_mem 1237 (by decide +kernel) (by decide +kernel)
theorem ny_X9_evening : yX9_evening.cls ≠ "java/lang/invoke/MethodHandle" ∧ yX9_evening.cls ≠ "java/lang/invoke/VarHandle" ∧ (parseMethodDescriptor yX9_evening.desc).map (fun d => d.parameters.length) = some 2 := by decide +kernel
theorem cw_X9_fail : Cond.code yX9_fail cX9_fail 1 none ∈ gw_t := gw_mem 1191 (by decide +kernel) (by decide +kernel)
theorem ny_X9_fail : yX9_fail.cls ≠ "java/lang/invoke/MethodHandle" ∧ yX9_fail.cls ≠ "java/lang/invoke/VarHandle" ∧ (parseMethodDescriptor yX9_fail.desc).map (fun d => d.parameters.length) = some 0 := by decide +kernel
theorem cw_X9_feed : Cond.code yX9_feed cX9_feed 2 (some .int) ∈ gw_t := gw_mem 1154 (by decide +kernel) (by decide +kernel)
theorem ny_X9_feed : yX9_feed.cls ≠ "java/lang/invoke/MethodHandle" ∧ yX9_feed.cls ≠ "java/lang/invoke/VarHandle" ∧ (parseMethodDescriptor yX9_feed.desc).map (fun d => d.parameters.length) = some 1 := by decide +kernel
theorem cw_X9_force : Cond.code yX9_force cX9_force 3 (some .int) ∈ gw_t := gw_mem 1233 (by decide +kernel) (by decide +kernel)
theorem ny_X9_force : yX9_force.cls ≠ "java/lang/invoke/MethodHandle" ∧ yX9_force.cls ≠ "java/lang/invoke/VarHandle" ∧ (parseMethodDescriptor yX9_force.desc).map (fun d => d.parameters.length) = some 1 := by decide +kernel
theorem cw_X9_goes : Cond.code yX9_goes cX9_goes 4 none ∈ gw_t := gw_mem 1245 (by decide +kernel) (by decide +kernel)
theorem ny_X9_goes : yX9_goes.cls ≠ "java/lang/invoke/MethodHandle" ∧ yX9_goes.cls ≠ "java/lang/invoke/VarHandle" ∧ (parseMethodDescriptor yX9_goes.desc).map (fun d => d.parameters.length) = some 1 := by decide +kernel
theorem cw_X9_goesOn : Cond.code yX9_goesOn cX9_goesOn 3 none ∈ gw_t := gw_mem 1323 (by decide +kernel) (by decide +kernel)
theorem ny_X9_goesOn : yX9_goesOn.cls ≠ "java/lang/invoke/MethodHandle" ∧ yX9_goesOn.cls ≠ "java/lang/invoke/VarHandle" ∧ (parseMethodDescriptor yX9_goesOn.desc).map (fun d => d.parameters.length) = some 1 := by decide +kernel
theorem cw_X9_harm : Cond.code yX9_harm cX9_harm 3 (some .int) ∈ gw_t := gw_mem 1343 (by decide +kernel) (by decide +kernel)
theorem ny_X9_harm : yX9_harm.cls ≠ "java/lang/invoke/MethodHandle" ∧ yX9_harm.cls ≠ "java/lang/invoke/VarHandle" ∧ (parseMethodDescriptor yX9_harm.desc).map (fun d => d.parameters.length) = some 1 := by decide +kernel
theorem cw_X9_hold : Cond.code yX9_hold cX9_hold 2 (some .int) ∈ gw_t := gw_mem 1290 (by decide +kernel) (by decide +kernel)
theorem ny_X9_hold : yX9_hold.cls ≠ "java/lang/invoke/MethodHandle" ∧ yX9_hold.cls ≠ "java/lang/invoke/VarHandle" ∧ (parseMethodDescriptor yX9_hold.desc).map (fun d => d.parameters.length) = some 1 := by decide +kernel
theorem cw_X9_image : Cond.code yX9_image cX9_image 2 (some .int) ∈ gw_t := gw_mem 1385 (by decide +kernel) (by decide +kernel)
theorem ny_X9_image : yX9_image.cls ≠ "java/lang/invoke/MethodHandle" ∧ yX9_image.cls ≠ "java/lang/invoke/VarHandle" ∧ (parseMethodDescriptor yX9_image.desc).map (fun d => d.parameters.length) = some 0 := by decide +kernel
theorem cw_X9_in : Cond.code yX9_in cX9_in 6 (some .boolean) ∈ gw_t := gw_mem 1121 (by decide +kernel) (by decide +kernel)
theorem ny_X9_in : yX9_in.cls ≠ "java/lang/invoke/MethodHandle" ∧ yX9_in.cls ≠ "java/lang/invoke/VarHandle" ∧ (parseMethodDescriptor yX9_in.desc).map (fun d => d.parameters.length) = some 3 := by decide +kernel
theorem cw_X9_init : Cond.code yX9_init cX9_init 1 none ∈ gw_t := gw_mem 924 (by decide +kernel) (by decide +kernel)
theorem ny_X9_init : yX9_init.cls ≠ "java/lang/invoke/MethodHandle" ∧ yX9_init.cls ≠ "java/lang/invoke/VarHandle" ∧ (parseMethodDescriptor yX9_init.desc).map (fun d => d.parameters.length) = some 0 := by decide +kernel
theorem cw_X9_isBetter : Cond.code yX9_isBetter cX9_isBetter 2 (some .boolean) ∈ gw_t := gw_mem 1303 (by decide +kernel) (by decide +kernel)
theorem ny_X9_isBetter : yX9_isBetter.cls ≠ "java/lang/invoke/MethodHandle" ∧ yX9_isBetter.cls ≠ "java/lang/invoke/VarHandle" ∧ (parseMethodDescriptor yX9_isBetter.desc).map (fun d => d.parameters.length) = some 1 := by decide +kernel
theorem cw_X9_isLetter : Cond.code yX9_isLetter cX9_isLetter 3 (some .boolean) ∈ gw_t := gw_mem 1183 (by decide +kernel) (by decide +kernel)
theorem ny_X9_isLetter : yX9_isLetter.cls ≠ "java/lang/invoke/MethodHandle" ∧ yX9_isLetter.cls ≠ "java/lang/invoke/VarHandle" ∧ (parseMethodDescriptor yX9_isLetter.desc).map (fun d => d.parameters.length) = some 2 := by decide +kernel
theorem cw_X9_isOne : Cond.code yX9_isOne cX9_isOne 2 (some .boolean) ∈ gw_t := gw_mem 1132 (by decide +kernel) (by decide +kernel)
theorem ny_X9_isOne : yX9_isOne.cls ≠ "java/lang/invoke/MethodHandle" ∧ yX9_isOne.cls ≠ "java/lang/invoke/VarHandle" ∧ (parseMethodDescriptor yX9_isOne.desc).map (fun d => d.parameters.length) = some 1 := by decide +kernel
theorem cw_X9_isRow : Cond.code yX9_isRow cX9_isRow 5 (some .boolean) ∈ gw_t := gw_mem 1241 (by decide +kernel) (by decide +kernel)
theorem ny_X9_isRow : yX9_isRow.cls ≠ "java/lang/invoke/MethodHandle" ∧ yX9_isRow.cls ≠ "java/lang/invoke/VarHandle" ∧ (parseMethodDescriptor yX9_isRow.desc).map (fun d => d.parameters.length) = some 1 := by decide +kernel
theorem cw_X9_isSheet : Cond.code yX9_isSheet cX9_isSheet 1 (some .boolean) ∈ gw_t := gw_mem 1354 (by decide +kernel) (by decide +kernel)
theorem ny_X9_isSheet : yX9_isSheet.cls ≠ "java/lang/invoke/MethodHandle" ∧ yX9_isSheet.cls ≠ "java/lang/invoke/VarHandle" ∧ (parseMethodDescriptor yX9_isSheet.desc).map (fun d => d.parameters.length) = some 1 := by decide +kernel
theorem cw_X9_isSign : Cond.code yX9_isSign cX9_isSign 2 (some .boolean) ∈ gw_t := gw_mem 1223 (by decide +kernel) (by decide +kernel)
theorem ny_X9_isSign : yX9_isSign.cls ≠ "java/lang/invoke/MethodHandle" ∧ yX9_isSign.cls ≠ "java/lang/invoke/VarHandle" ∧ (parseMethodDescriptor yX9_isSign.desc).map (fun d => d.parameters.length) = some 1 := by decide +kernel
theorem cw_X9_isSlip : Cond.code yX9_isSlip cX9_isSlip 2 (some .boolean) ∈ gw_t := gw_mem 1143 (by decide +kernel) (by decide +kernel)
theorem ny_X9_isSlip : yX9_isSlip.cls ≠ "java/lang/invoke/MethodHandle" ∧ yX9_isSlip.cls ≠ "java/lang/invoke/VarHandle" ∧ (parseMethodDescriptor yX9_isSlip.desc).map (fun d => d.parameters.length) = some 1 := by decide +kernel
theorem cw_X9_isWord : Cond.code yX9_isWord cX9_isWord 9 (some .boolean) ∈ gw_t := gw_mem 1179 (by decide +kernel) (by decide +kernel)
theorem ny_X9_isWord : yX9_isWord.cls ≠ "java/lang/invoke/MethodHandle" ∧ yX9_isWord.cls ≠ "java/lang/invoke/VarHandle" ∧ (parseMethodDescriptor yX9_isWord.desc).map (fun d => d.parameters.length) = some 8 := by decide +kernel
theorem cw_X9_judge : Cond.code yX9_judge cX9_judge 3 (some .int) ∈ gw_t := gw_mem 1347 (by decide +kernel) (by decide +kernel)
theorem ny_X9_judge : yX9_judge.cls ≠ "java/lang/invoke/MethodHandle" ∧ yX9_judge.cls ≠ "java/lang/invoke/VarHandle" ∧ (parseMethodDescriptor yX9_judge.desc).map (fun d => d.parameters.length) = some 1 := by decide +kernel
theorem cw_X9_lays : Cond.code yX9_lays cX9_lays 4 none ∈ gw_t := gw_mem 1307 (by decide +kernel) (by decide +kernel)
theorem ny_X9_lays : yX9_lays.cls ≠ "java/lang/invoke/MethodHandle" ∧ yX9_lays.cls ≠ "java/lang/invoke/VarHandle" ∧ (parseMethodDescriptor yX9_lays.desc).map (fun d => d.parameters.length) = some 1 := by decide +kernel
theorem cw_X9_laysBack : Cond.code yX9_laysBack cX9_laysBack 4 none ∈ gw_t := gw_mem 1311 (by decide +kernel) (by decide +kernel)
theorem ny_X9_laysBack : yX9_laysBack.cls ≠ "java/lang/invoke/MethodHandle" ∧ yX9_laysBack.cls ≠ "java/lang/invoke/VarHandle" ∧ (parseMethodDescriptor yX9_laysBack.desc).map (fun d => d.parameters.length) = some 1 := by decide +kernel
theorem cw_X9_leftMany : Cond.code yX9_leftMany cX9_leftMany 1 (some .int) ∈ gw_t := gw_mem 1286 (by decide +kernel) (by decide +kernel)
theorem ny_X9_leftMany : yX9_leftMany.cls ≠ "java/lang/invoke/MethodHandle" ∧ yX9_leftMany.cls ≠ "java/lang/invoke/VarHandle" ∧ (parseMethodDescriptor yX9_leftMany.desc).map (fun d => d.parameters.length) = some 0 := by decide +kernel
theorem cw_X9_moves : Cond.code yX9_moves cX9_moves 6 (some .int) ∈ gw_t := gw_mem 1264 (by decide +kernel) (by decide +kernel)
theorem ny_X9_moves : yX9_moves.cls ≠ "java/lang/invoke/MethodHandle" ∧ yX9_moves.cls ≠ "java/lang/invoke/VarHandle" ∧ (parseMethodDescriptor yX9_moves.desc).map (fun d => d.parameters.length) = some 2 := by decide +kernel
theorem cw_X9_name : Cond.code yX9_name cX9_name 1 (some .int) ∈ gw_t := gw_mem 1227 (by decide +kernel) (by decide +kernel)
theorem ny_X9_name : yX9_name.cls ≠ "java/lang/invoke/MethodHandle" ∧ yX9_name.cls ≠ "java/lang/invoke/VarHandle" ∧ (parseMethodDescriptor yX9_name.desc).map (fun d => d.parameters.length) = some 0 := by decide +kernel
theorem cw_X9_next : Cond.code yX9_next cX9_next 3 none ∈ gw_t := gw_mem 1167 (by decide +kernel) (by decide +kernel)
theorem ny_X9_next : yX9_next.cls ≠ "java/lang/invoke/MethodHandle" ∧ yX9_next.cls ≠ "java/lang/invoke/VarHandle" ∧ (parseMethodDescriptor yX9_next.desc).map (fun d => d.parameters.length) = some 0 := by decide +kernel
theorem cw_X9_not : Cond.code yX9_not cX9_not 4 (some .int) ∈ gw_t := gw_mem 1203 (by decide +kernel) (by decide +kernel)
theorem ny_X9_not : yX9_not.cls ≠ "java/lang/invoke/MethodHandle" ∧ yX9_not.cls ≠ "java/lang/invoke/VarHandle" ∧ (parseMethodDescriptor yX9_not.desc).map (fun d => d.parameters.length) = some 0 := by decide +kernel
theorem cw_X9_opens : Cond.code yX9_opens cX9_opens 1 (some .boolean) ∈ gw_t := gw_mem 1207 (by decide +kernel) (by decide +kernel)
theorem ny_X9_opens : yX9_opens.cls ≠ "java/lang/invoke/MethodHandle" ∧ yX9_opens.cls ≠ "java/lang/invoke/VarHandle" ∧ (parseMethodDescriptor yX9_opens.desc).map (fun d => d.parameters.length) = some 0 := by decide +kernel
theorem cw_X9_over : Cond.code yX9_over cX9_over 1 (some .int) ∈ gw_t := gw_mem 1418 (by decide +kernel) (by decide +kernel)
theorem ny_X9_over : yX9_over.cls ≠ "java/lang/invoke/MethodHandle" ∧ yX9_over.cls ≠ "java/lang/invoke/VarHandle" ∧ (parseMethodDescriptor yX9_over.desc).map (fun d => d.parameters.length) = some 1 := by decide +kernel
theorem cw_X9_part : Cond.code yX9_part cX9_part 3 (some .int) ∈ gw_t := gw_mem 1187 (by decide +kernel) (by decide +kernel)
theorem ny_X9_part : yX9_part.cls ≠ "java/lang/invoke/MethodHandle" ∧ yX9_part.cls ≠ "java/lang/invoke/VarHandle" ∧ (parseMethodDescriptor yX9_part.desc).map (fun d => d.parameters.length) = some 1 := by decide +kernel
theorem cw_X9_read : Cond.code yX9_read cX9_read 6 (some .int) ∈ gw_t := gw_mem 1163 (by decide +kernel) (by decide +kernel)
theorem ny_X9_read : yX9_read.cls ≠ "java/lang/invoke/MethodHandle" ∧ yX9_read.cls ≠ "java/lang/invoke/VarHandle" ∧ (parseMethodDescriptor yX9_read.desc).map (fun d => d.parameters.length) = some 2 := by decide +kernel
theorem cw_X9_refuse : Cond.code yX9_refuse cX9_refuse 5 (some .int) ∈ gw_t := gw_mem 1335 (by decide +kernel) (by decide +kernel)
theorem ny_X9_refuse : yX9_refuse.cls ≠ "java/lang/invoke/MethodHandle" ∧ yX9_refuse.cls ≠ "java/lang/invoke/VarHandle" ∧ (parseMethodDescriptor yX9_refuse.desc).map (fun d => d.parameters.length) = some 1 := by decide +kernel
theorem cw_X9_rows : Cond.code yX9_rows cX9_rows 5 none ∈ gw_t := gw_mem 1299 (by decide +kernel) (by decide +kernel)
theorem ny_X9_rows : yX9_rows.cls ≠ "java/lang/invoke/MethodHandle" ∧ yX9_rows.cls ≠ "java/lang/invoke/VarHandle" ∧ (parseMethodDescriptor yX9_rows.desc).map (fun d => d.parameters.length) = some 3 := by decide +kernel
theorem cw_X9_says : Cond.code yX9_says cX9_says 6 (some .int) ∈ gw_t := gw_mem 1278 (by decide +kernel) (by decide +kernel)
theorem ny_X9_says : yX9_says.cls ≠ "java/lang/invoke/MethodHandle" ∧ yX9_says.cls ≠ "java/lang/invoke/VarHandle" ∧ (parseMethodDescriptor yX9_says.desc).map (fun d => d.parameters.length) = some 4 := by decide +kernel
theorem cw_X9_set : Cond.code yX9_set cX9_set 5 (some .int) ∈ gw_t := gw_mem 1136 (by decide +kernel) (by decide +kernel)
theorem ny_X9_set : yX9_set.cls ≠ "java/lang/invoke/MethodHandle" ∧ yX9_set.cls ≠ "java/lang/invoke/VarHandle" ∧ (parseMethodDescriptor yX9_set.desc).map (fun d => d.parameters.length) = some 3 := by decide +kernel
theorem cw_X9_sheet : Cond.code yX9_sheet cX9_sheet 5 (some .int) ∈ gw_t := gw_mem 1397 (by decide +kernel) (by decide +kernel)
theorem ny_X9_sheet : yX9_sheet.cls ≠ "java/lang/invoke/MethodHandle" ∧ yX9_sheet.cls ≠ "java/lang/invoke/VarHandle" ∧ (parseMethodDescriptor yX9_sheet.desc).map (fun d => d.parameters.length) = some 3 := by decide +kernel
theorem cw_X9_sizeOf : Cond.code yX9_sizeOf cX9_sizeOf 3 (some .int) ∈ gw_t := gw_mem 1252 (by decide +kernel) (by decide +kernel)
theorem ny_X9_sizeOf : yX9_sizeOf.cls ≠ "java/lang/invoke/MethodHandle" ∧ yX9_sizeOf.cls ≠ "java/lang/invoke/VarHandle" ∧ (parseMethodDescriptor yX9_sizeOf.desc).map (fun d => d.parameters.length) = some 1 := by decide +kernel
theorem cw_X9_slip : Cond.code yX9_slip cX9_slip 4 (some .int) ∈ gw_t := gw_mem 1126 (by decide +kernel) (by decide +kernel)
theorem ny_X9_slip : yX9_slip.cls ≠ "java/lang/invoke/MethodHandle" ∧ yX9_slip.cls ≠ "java/lang/invoke/VarHandle" ∧ (parseMethodDescriptor yX9_slip.desc).map (fun d => d.parameters.length) = some 3 := by decide +kernel
theorem cw_X9_slips : Cond.code yX9_slips cX9_slips 8 (some .int) ∈ gw_t := gw_mem 1410 (by decide +kernel) (by decide +kernel)
theorem ny_X9_slips : yX9_slips.cls ≠ "java/lang/invoke/MethodHandle" ∧ yX9_slips.cls ≠ "java/lang/invoke/VarHandle" ∧ (parseMethodDescriptor yX9_slips.desc).map (fun d => d.parameters.length) = some 4 := by decide +kernel
theorem cw_X9_spell : Cond.code yX9_spell cX9_spell 10 none ∈ gw_t := gw_mem 929 (by decide +kernel) (by decide +kernel)
theorem ny_X9_spell : yX9_spell.cls ≠ "java/lang/invoke/MethodHandle" ∧ yX9_spell.cls ≠ "java/lang/invoke/VarHandle" ∧ (parseMethodDescriptor yX9_spell.desc).map (fun d => d.parameters.length) = some 9 := by decide +kernel
theorem cw_X9_taken : Cond.code yX9_taken cX9_taken 4 (some .int) ∈ gw_t := gw_mem 1415 (by decide +kernel) (by decide +kernel)
theorem ny_X9_taken : yX9_taken.cls ≠ "java/lang/invoke/MethodHandle" ∧ yX9_taken.cls ≠ "java/lang/invoke/VarHandle" ∧ (parseMethodDescriptor yX9_taken.desc).map (fun d => d.parameters.length) = some 2 := by decide +kernel
theorem cw_X9_tellBad : Cond.code yX9_tellBad cX9_tellBad 2 (some .int) ∈ gw_t := gw_mem 1351 (by decide +kernel) (by decide +kernel)
theorem ny_X9_tellBad : yX9_tellBad.cls ≠ "java/lang/invoke/MethodHandle" ∧ yX9_tellBad.cls ≠ "java/lang/invoke/VarHandle" ∧ (parseMethodDescriptor yX9_tellBad.desc).map (fun d => d.parameters.length) = some 1 := by decide +kernel
theorem cw_X9_tells : Cond.code yX9_tells cX9_tells 2 (some .int) ∈ gw_t := gw_mem 1282 (by decide +kernel) (by decide +kernel)
theorem ny_X9_tells : yX9_tells.cls ≠ "java/lang/invoke/MethodHandle" ∧ yX9_tells.cls ≠ "java/lang/invoke/VarHandle" ∧ (parseMethodDescriptor yX9_tells.desc).map (fun d => d.parameters.length) = some 1 := by decide +kernel
theorem cw_X9_term : Cond.code yX9_term cX9_term 2 (some .int) ∈ gw_t := gw_mem 1215 (by decide +kernel) (by decide +kernel)
theorem ny_X9_term : yX9_term.cls ≠ "java/lang/invoke/MethodHandle" ∧ yX9_term.cls ≠ "java/lang/invoke/VarHandle" ∧ (parseMethodDescriptor yX9_term.desc).map (fun d => d.parameters.length) = some 0 := by decide +kernel
theorem cw_X9_text : Cond.code yX9_text cX9_text 2 (some .int) ∈ gw_t := gw_mem 1159 (by decide +kernel) (by decide +kernel)
theorem ny_X9_text : yX9_text.cls ≠ "java/lang/invoke/MethodHandle" ∧ yX9_text.cls ≠ "java/lang/invoke/VarHandle" ∧ (parseMethodDescriptor yX9_text.desc).map (fun d => d.parameters.length) = some 0 := by decide +kernel
theorem cw_X9_thirst : Cond.code yX9_thirst cX9_thirst 5 (some .int) ∈ gw_t := gw_mem 1274 (by decide +kernel) (by decide +kernel)
theorem ny_X9_thirst : yX9_thirst.cls ≠ "java/lang/invoke/MethodHandle" ∧ yX9_thirst.cls ≠ "java/lang/invoke/VarHandle" ∧ (parseMethodDescriptor yX9_thirst.desc).map (fun d => d.parameters.length) = some 2 := by decide +kernel
theorem cw_X9_told : Cond.code yX9_told cX9_told 3 (some .int) ∈ gw_t := gw_mem 1150 (by decide +kernel) (by decide +kernel)
theorem ny_X9_told : yX9_told.cls ≠ "java/lang/invoke/MethodHandle" ∧ yX9_told.cls ≠ "java/lang/invoke/VarHandle" ∧ (parseMethodDescriptor yX9_told.desc).map (fun d => d.parameters.length) = some 2 := by decide +kernel
theorem cw_X9_wait : Cond.code yX9_wait cX9_wait 2 (some .int) ∈ gw_t := gw_mem 1331 (by decide +kernel) (by decide +kernel)
theorem ny_X9_wait : yX9_wait.cls ≠ "java/lang/invoke/MethodHandle" ∧ yX9_wait.cls ≠ "java/lang/invoke/VarHandle" ∧ (parseMethodDescriptor yX9_wait.desc).map (fun d => d.parameters.length) = some 1 := by decide +kernel
theorem cw_X9_which : Cond.code yX9_which cX9_which 5 (some .int) ∈ gw_t := gw_mem 1362 (by decide +kernel) (by decide +kernel)
theorem ny_X9_which : yX9_which.cls ≠ "java/lang/invoke/MethodHandle" ∧ yX9_which.cls ≠ "java/lang/invoke/VarHandle" ∧ (parseMethodDescriptor yX9_which.desc).map (fun d => d.parameters.length) = some 1 := by decide +kernel
theorem cw_X9_within : Cond.code yX9_within cX9_within 3 (some .int) ∈ gw_t := gw_mem 1267 (by decide +kernel) (by decide +kernel)
theorem ny_X9_within : yX9_within.cls ≠ "java/lang/invoke/MethodHandle" ∧ yX9_within.cls ≠ "java/lang/invoke/VarHandle" ∧ (parseMethodDescriptor yX9_within.desc).map (fun d => d.parameters.length) = some 3 := by decide +kernel
theorem cw_X9_wrongAt : Cond.code yX9_wrongAt cX9_wrongAt 4 (some .int) ∈ gw_t := gw_mem 1358 (by decide +kernel) (by decide +kernel)
theorem ny_X9_wrongAt : yX9_wrongAt.cls ≠ "java/lang/invoke/MethodHandle" ∧ yX9_wrongAt.cls ≠ "java/lang/invoke/VarHandle" ∧ (parseMethodDescriptor yX9_wrongAt.desc).map (fun d => d.parameters.length) = some 1 := by decide +kernel
theorem ml_J0_492 : Cond.methodLink RJ0 492 yJ0_isLatin1_aae02 ∈ gw_t := gw_mem 340 (by decide +kernel) (by decide +kernel)
theorem gd_J0_492 : GoodIn gw_t (wsV RJ0 492 RJ0 yJ0_isLatin1_aae02 (.code yJ0_isLatin1_aae02 cJ0_isLatin1_aae02 1 (some .boolean) :: gw_t)) := gw_wsV ml_J0_492 (gw_mem 341 (by decide +kernel) (by decide +kernel)) (gw_mem 342 (by decide +kernel) (by decide +kernel)) (gw_mem 70 (by decide +kernel) (by decide +kernel)) cw_J0_isLatin1_aae02
theorem ml_J0_495 : Cond.methodLink RJ0 495 yJ1_charAt_3b067 ∈ gw_t := gw_mem 344 (by decide +kernel) (by decide +kernel)
theorem gd_J0_495 : GoodIn gw_t (va_wsS RJ0 495 yJ1_charAt_3b067 (.code yJ1_charAt_3b067 cJ1_charAt_3b067 2 (some .char) :: gw_t)) := gw_wsS ml_J0_495 (gw_mem 345 (by decide +kernel) (by decide +kernel)) (gw_mem 71 (by decide +kernel) (by decide +kernel)) cw_J1_charAt_3b067
theorem ml_J0_498 : Cond.methodLink RJ0 498 yJ2_charAt_3b067 ∈ gw_t := gw_mem 355 (by decide +kernel) (by decide +kernel)
theorem gd_J0_498 : GoodIn gw_t (va_wsS RJ0 498 yJ2_charAt_3b067 (.code yJ2_charAt_3b067 cJ2_charAt_3b067 2 (some .char) :: gw_t)) := gw_wsS ml_J0_498 (gw_mem 356 (by decide +kernel) (by decide +kernel)) (gw_mem 73 (by decide +kernel) (by decide +kernel)) cw_J2_charAt_3b067
theorem ml_J0_1062 : Cond.methodLink RJ0 1062 yJ3_checkFromToIndex_8c36e ∈ gw_t := gw_mem 458 (by decide +kernel) (by decide +kernel)
theorem gd_J0_1062 : GoodIn gw_t (va_wsS RJ0 1062 yJ3_checkFromToIndex_8c36e (.code yJ3_checkFromToIndex_8c36e cJ3_checkFromToIndex_8c36e 4 (some .int) :: gw_t)) := gw_wsS ml_J0_1062 (gw_mem 459 (by decide +kernel) (by decide +kernel)) (gw_mem 72 (by decide +kernel) (by decide +kernel)) cw_J3_checkFromToIndex_8c36e
theorem ml_J0_1059 : Cond.methodLink RJ0 1059 yJ3_checkIndex_8e157 ∈ gw_t := gw_mem 352 (by decide +kernel) (by decide +kernel)
theorem gd_J0_1059 : GoodIn gw_t (va_wsS RJ0 1059 yJ3_checkIndex_8e157 (.code yJ3_checkIndex_8e157 cJ3_checkIndex_8e157 3 (some .int) :: gw_t)) := gw_wsS ml_J0_1059 (gw_mem 353 (by decide +kernel) (by decide +kernel)) (gw_mem 72 (by decide +kernel) (by decide +kernel)) cw_J3_checkIndex_8e157
theorem ml_J0_633 : Cond.methodLink RJ0 633 yJ0_indexOf_7cf53 ∈ gw_t := gw_mem 423 (by decide +kernel) (by decide +kernel)
theorem gd_J0_633 : GoodIn gw_t (wsV RJ0 633 RJ0 yJ0_indexOf_7cf53 (.code yJ0_indexOf_7cf53 cJ0_indexOf_7cf53 3 (some .int) :: gw_t)) := gw_wsV ml_J0_633 (gw_mem 424 (by decide +kernel) (by decide +kernel)) (gw_mem 425 (by decide +kernel) (by decide +kernel)) (gw_mem 70 (by decide +kernel) (by decide +kernel)) cw_J0_indexOf_7cf53
theorem ml_J0_505 : Cond.methodLink RJ0 505 yJ0_length_8abf5 ∈ gw_t := gw_mem 427 (by decide +kernel) (by decide +kernel)
theorem gd_J0_505 : GoodIn gw_t (wsV RJ0 505 RJ0 yJ0_length_8abf5 (.code yJ0_length_8abf5 cJ0_length_8abf5 1 (some .int) :: gw_t)) := gw_wsV ml_J0_505 (gw_mem 327 (by decide +kernel) (by decide +kernel)) (gw_mem 328 (by decide +kernel) (by decide +kernel)) (gw_mem 70 (by decide +kernel) (by decide +kernel)) cw_J0_length_8abf5
theorem ml_J0_637 : Cond.methodLink RJ0 637 yJ1_indexOf_4cfef ∈ gw_t := gw_mem 428 (by decide +kernel) (by decide +kernel)
theorem gd_J0_637 : GoodIn gw_t (va_wsS RJ0 637 yJ1_indexOf_4cfef (.code yJ1_indexOf_4cfef cJ1_indexOf_4cfef 4 (some .int) :: gw_t)) := gw_wsS ml_J0_637 (gw_mem 429 (by decide +kernel) (by decide +kernel)) (gw_mem 71 (by decide +kernel) (by decide +kernel)) cw_J1_indexOf_4cfef
theorem ml_J0_640 : Cond.methodLink RJ0 640 yJ2_indexOf_4cfef ∈ gw_t := gw_mem 443 (by decide +kernel) (by decide +kernel)
theorem gd_J0_640 : GoodIn gw_t (va_wsS RJ0 640 yJ2_indexOf_4cfef (.code yJ2_indexOf_4cfef cJ2_indexOf_4cfef 4 (some .int) :: gw_t)) := gw_wsS ml_J0_640 (gw_mem 444 (by decide +kernel) (by decide +kernel)) (gw_mem 73 (by decide +kernel) (by decide +kernel)) cw_J2_indexOf_4cfef
theorem ml_J0_335 : Cond.methodLink RJ0 335 yJ0_coder_7d493 ∈ gw_t := gw_mem 330 (by decide +kernel) (by decide +kernel)
theorem gd_J0_335 : GoodIn gw_t (wsV RJ0 335 RJ0 yJ0_coder_7d493 (.code yJ0_coder_7d493 cJ0_coder_7d493 1 (some .byte) :: gw_t)) := gw_wsV ml_J0_335 (gw_mem 331 (by decide +kernel) (by decide +kernel)) (gw_mem 332 (by decide +kernel) (by decide +kernel)) (gw_mem 70 (by decide +kernel) (by decide +kernel)) cw_J0_coder_7d493
theorem ml_J1_9 : Cond.methodLink RJ1 9 yJ0_checkIndex_df160 ∈ gw_t := gw_mem 347 (by decide +kernel) (by decide +kernel)
theorem gd_J1_9 : GoodIn gw_t (va_wsS RJ1 9 yJ0_checkIndex_df160 (.code yJ0_checkIndex_df160 cJ0_checkIndex_df160 2 none :: gw_t)) := gw_wsS ml_J1_9 (gw_mem 348 (by decide +kernel) (by decide +kernel)) (gw_mem 70 (by decide +kernel) (by decide +kernel)) cw_J0_checkIndex_df160
theorem ml_J1_88 : Cond.methodLink RJ1 88 yJ1_canEncode_9a6ad ∈ gw_t := gw_mem 431 (by decide +kernel) (by decide +kernel)
theorem gd_J1_88 : GoodIn gw_t (va_wsS RJ1 88 yJ1_canEncode_9a6ad (.code yJ1_canEncode_9a6ad cJ1_canEncode_9a6ad 1 (some .boolean) :: gw_t)) := gw_wsS ml_J1_88 (gw_mem 432 (by decide +kernel) (by decide +kernel)) (gw_mem 71 (by decide +kernel) (by decide +kernel)) cw_J1_canEncode_9a6ad
theorem ml_J1_92 : Cond.methodLink RJ1 92 yJ9_max_7cf53 ∈ gw_t := gw_mem 434 (by decide +kernel) (by decide +kernel)
theorem gd_J1_92 : GoodIn gw_t (va_wsS RJ1 92 yJ9_max_7cf53 (.code yJ9_max_7cf53 cJ9_max_7cf53 2 (some .int) :: gw_t)) := gw_wsS ml_J1_92 (gw_mem 435 (by decide +kernel) (by decide +kernel)) (gw_mem 74 (by decide +kernel) (by decide +kernel)) cw_J9_max_7cf53
theorem ml_J1_38 : Cond.methodLink RJ1 38 yJ9_min_7cf53 ∈ gw_t := gw_mem 437 (by decide +kernel) (by decide +kernel)
theorem gd_J1_38 : GoodIn gw_t (va_wsS RJ1 38 yJ9_min_7cf53 (.code yJ9_min_7cf53 cJ9_min_7cf53 2 (some .int) :: gw_t)) := gw_wsS ml_J1_38 (gw_mem 438 (by decide +kernel) (by decide +kernel)) (gw_mem 74 (by decide +kernel) (by decide +kernel)) cw_J9_min_7cf53
theorem ml_J1_95 : Cond.methodLink RJ1 95 yJ1_indexOfChar_4cfef ∈ gw_t := gw_mem 440 (by decide +kernel) (by decide +kernel)
theorem gd_J1_95 : GoodIn gw_t (va_wsS RJ1 95 yJ1_indexOfChar_4cfef (.code yJ1_indexOfChar_4cfef cJ1_indexOfChar_4cfef 6 (some .int) :: gw_t)) := gw_wsS ml_J1_95 (gw_mem 441 (by decide +kernel) (by decide +kernel)) (gw_mem 71 (by decide +kernel) (by decide +kernel)) cw_J1_indexOfChar_4cfef
theorem ml_J2_67 : Cond.methodLink RJ2 67 yJ2_checkIndex_2214a ∈ gw_t := gw_mem 358 (by decide +kernel) (by decide +kernel)
theorem gd_J2_67 : GoodIn gw_t (va_wsS RJ2 67 yJ2_checkIndex_2214a (.code yJ2_checkIndex_2214a cJ2_checkIndex_2214a 2 none :: gw_t)) := gw_wsS ml_J2_67 (gw_mem 359 (by decide +kernel) (by decide +kernel)) (gw_mem 73 (by decide +kernel) (by decide +kernel)) cw_J2_checkIndex_2214a
theorem ml_J2_71 : Cond.methodLink RJ2 71 yJ2_getChar_3b067 ∈ gw_t := gw_mem 365 (by decide +kernel) (by decide +kernel)
theorem gd_J2_71 : GoodIn gw_t (va_wsS RJ2 71 yJ2_getChar_3b067 (.code yJ2_getChar_3b067 cJ2_getChar_3b067 2 (some .char) :: gw_t)) := gw_wsS ml_J2_71 (gw_mem 366 (by decide +kernel) (by decide +kernel)) (gw_mem 73 (by decide +kernel) (by decide +kernel)) cw_J2_getChar_3b067
theorem ml_J2_48 : Cond.methodLink RJ2 48 yJ2_length_9d52b ∈ gw_t := gw_mem 361 (by decide +kernel) (by decide +kernel)
theorem gd_J2_48 : GoodIn gw_t (va_wsS RJ2 48 yJ2_length_9d52b (.code yJ2_length_9d52b cJ2_length_9d52b 1 (some .int) :: gw_t)) := gw_wsS ml_J2_48 (gw_mem 362 (by decide +kernel) (by decide +kernel)) (gw_mem 73 (by decide +kernel) (by decide +kernel)) cw_J2_length_9d52b
theorem ml_J2_241 : Cond.methodLink RJ2 241 yJ0_checkBoundsBeginEnd_23922 ∈ gw_t := gw_mem 455 (by decide +kernel) (by decide +kernel)
theorem gd_J2_241 : GoodIn gw_t (va_wsS RJ2 241 yJ0_checkBoundsBeginEnd_23922 (.code yJ0_checkBoundsBeginEnd_23922 cJ0_checkBoundsBeginEnd_23922 3 none :: gw_t)) := gw_wsS ml_J2_241 (gw_mem 456 (by decide +kernel) (by decide +kernel)) (gw_mem 70 (by decide +kernel) (by decide +kernel)) cw_J0_checkBoundsBeginEnd_23922
theorem ml_J2_414 : Cond.methodLink RJ2 414 yJ0_checkIndex_df160 ∈ gw_t := gw_mem 364 (by decide +kernel) (by decide +kernel)
theorem gd_J2_414 : GoodIn gw_t (va_wsS RJ2 414 yJ0_checkIndex_df160 (.code yJ0_checkIndex_df160 cJ0_checkIndex_df160 2 none :: gw_t)) := gw_wsS ml_J2_414 (gw_mem 348 (by decide +kernel) (by decide +kernel)) (gw_mem 70 (by decide +kernel) (by decide +kernel)) cw_J0_checkIndex_df160
theorem ml_J2_96 : Cond.methodLink RJ2 96 yJ2_checkBoundsBeginEnd_d044e ∈ gw_t := gw_mem 452 (by decide +kernel) (by decide +kernel)
theorem gd_J2_96 : GoodIn gw_t (va_wsS RJ2 96 yJ2_checkBoundsBeginEnd_d044e (.code yJ2_checkBoundsBeginEnd_d044e cJ2_checkBoundsBeginEnd_d044e 3 none :: gw_t)) := gw_wsS ml_J2_96 (gw_mem 453 (by decide +kernel) (by decide +kernel)) (gw_mem 73 (by decide +kernel) (by decide +kernel)) cw_J2_checkBoundsBeginEnd_d044e
theorem ml_J2_244 : Cond.methodLink RJ2 244 yJ2_indexOfCharUnsafe_4cfef ∈ gw_t := gw_mem 461 (by decide +kernel) (by decide +kernel)
theorem gd_J2_244 : GoodIn gw_t (va_wsS RJ2 244 yJ2_indexOfCharUnsafe_4cfef (.code yJ2_indexOfCharUnsafe_4cfef cJ2_indexOfCharUnsafe_4cfef 5 (some .int) :: gw_t)) := gw_wsS ml_J2_244 (gw_mem 462 (by decide +kernel) (by decide +kernel)) (gw_mem 73 (by decide +kernel) (by decide +kernel)) cw_J2_indexOfCharUnsafe_4cfef
theorem ml_J2_164 : Cond.methodLink RJ2 164 yJ11_isValidCodePoint_9a6ad ∈ gw_t := gw_mem 467 (by decide +kernel) (by decide +kernel)
theorem gd_J2_164 : GoodIn gw_t (va_wsS RJ2 164 yJ11_isValidCodePoint_9a6ad (.code yJ11_isValidCodePoint_9a6ad cJ11_isValidCodePoint_9a6ad 2 (some .boolean) :: gw_t)) := gw_wsS ml_J2_164 (gw_mem 468 (by decide +kernel) (by decide +kernel)) (gw_mem 75 (by decide +kernel) (by decide +kernel)) cw_J11_isValidCodePoint_9a6ad
theorem ml_J2_157 : Cond.methodLink RJ2 157 yJ11_highSurrogate_5068e ∈ gw_t := gw_mem 470 (by decide +kernel) (by decide +kernel)
theorem gd_J2_157 : GoodIn gw_t (va_wsS RJ2 157 yJ11_highSurrogate_5068e (.code yJ11_highSurrogate_5068e cJ11_highSurrogate_5068e 1 (some .char) :: gw_t)) := gw_wsS ml_J2_157 (gw_mem 471 (by decide +kernel) (by decide +kernel)) (gw_mem 75 (by decide +kernel) (by decide +kernel)) cw_J11_highSurrogate_5068e
theorem ml_J2_161 : Cond.methodLink RJ2 161 yJ11_lowSurrogate_5068e ∈ gw_t := gw_mem 474 (by decide +kernel) (by decide +kernel)
theorem gd_J2_161 : GoodIn gw_t (va_wsS RJ2 161 yJ11_lowSurrogate_5068e (.code yJ11_lowSurrogate_5068e cJ11_lowSurrogate_5068e 1 (some .char) :: gw_t)) := gw_wsS ml_J2_161 (gw_mem 475 (by decide +kernel) (by decide +kernel)) (gw_mem 75 (by decide +kernel) (by decide +kernel)) cw_J11_lowSurrogate_5068e
theorem ml_J2_224 : Cond.methodLink RJ2 224 yJ9_max_7cf53 ∈ gw_t := gw_mem 446 (by decide +kernel) (by decide +kernel)
theorem gd_J2_224 : GoodIn gw_t (va_wsS RJ2 224 yJ9_max_7cf53 (.code yJ9_max_7cf53 cJ9_max_7cf53 2 (some .int) :: gw_t)) := gw_wsS ml_J2_224 (gw_mem 435 (by decide +kernel) (by decide +kernel)) (gw_mem 74 (by decide +kernel) (by decide +kernel)) cw_J9_max_7cf53
theorem ml_J2_183 : Cond.methodLink RJ2 183 yJ9_min_7cf53 ∈ gw_t := gw_mem 447 (by decide +kernel) (by decide +kernel)
theorem gd_J2_183 : GoodIn gw_t (va_wsS RJ2 183 yJ9_min_7cf53 (.code yJ9_min_7cf53 cJ9_min_7cf53 2 (some .int) :: gw_t)) := gw_wsS ml_J2_183 (gw_mem 438 (by decide +kernel) (by decide +kernel)) (gw_mem 74 (by decide +kernel) (by decide +kernel)) cw_J9_min_7cf53
theorem ml_J2_228 : Cond.methodLink RJ2 228 yJ2_indexOfChar_4cfef ∈ gw_t := gw_mem 449 (by decide +kernel) (by decide +kernel)
theorem gd_J2_228 : GoodIn gw_t (va_wsS RJ2 228 yJ2_indexOfChar_4cfef (.code yJ2_indexOfChar_4cfef cJ2_indexOfChar_4cfef 4 (some .int) :: gw_t)) := gw_wsS ml_J2_228 (gw_mem 450 (by decide +kernel) (by decide +kernel)) (gw_mem 73 (by decide +kernel) (by decide +kernel)) cw_J2_indexOfChar_4cfef
theorem ml_J2_232 : Cond.methodLink RJ2 232 yJ2_indexOfSupplementary_4cfef ∈ gw_t := gw_mem 464 (by decide +kernel) (by decide +kernel)
theorem gd_J2_232 : GoodIn gw_t (va_wsS RJ2 232 yJ2_indexOfSupplementary_4cfef (.code yJ2_indexOfSupplementary_4cfef cJ2_indexOfSupplementary_4cfef 7 (some .int) :: gw_t)) := gw_wsS ml_J2_232 (gw_mem 465 (by decide +kernel) (by decide +kernel)) (gw_mem 73 (by decide +kernel) (by decide +kernel)) cw_J2_indexOfSupplementary_4cfef
theorem ml_J7_304 : Cond.methodLink RJ7 304 yJ9_min_7cf53 ∈ gw_t := gw_mem 525 (by decide +kernel) (by decide +kernel)
theorem gd_J7_304 : GoodIn gw_t (va_wsS RJ7 304 yJ9_min_7cf53 (.code yJ9_min_7cf53 cJ9_min_7cf53 2 (some .int) :: gw_t)) := gw_wsS ml_J7_304 (gw_mem 438 (by decide +kernel) (by decide +kernel)) (gw_mem 74 (by decide +kernel) (by decide +kernel)) cw_J9_min_7cf53
theorem ml_L_13 : Cond.methodLink RL 13 yX8_come ∈ gw_t := gw_mem 593 (by decide +kernel) (by decide +kernel)
theorem gd_L_13 : GoodIn gw_t (wsV RL 13 RX8 yX8_come (.code yX8_come cX8_come 3 (some .int) :: gw_t)) := gw_wsV ml_L_13 (gw_mem 594 (by decide +kernel) (by decide +kernel)) (gw_mem 595 (by decide +kernel) (by decide +kernel)) (gw_mem 63 (by decide +kernel) (by decide +kernel)) cw_X8_come
theorem ml_L_17 : Cond.methodLink RL 17 yX9_come ∈ gw_t := gw_mem 1114 (by decide +kernel) (by decide +kernel)
theorem gd_L_17 : GoodIn gw_t (wsV RL 17 RX9 yX9_come (.code yX9_come cX9_come 3 (some .int) :: gw_t)) := gw_wsV ml_L_17 (gw_mem 1115 (by decide +kernel) (by decide +kernel)) (gw_mem 1116 (by decide +kernel) (by decide +kernel)) (gw_mem 80 (by decide +kernel) (by decide +kernel)) cw_X9_come
theorem ml_L_18 : Cond.methodLink RL 18 yX8_slip ∈ gw_t := gw_mem 609 (by decide +kernel) (by decide +kernel)
theorem gd_L_18 : GoodIn gw_t (wsV RL 18 RX8 yX8_slip (.code yX8_slip cX8_slip 4 (some .int) :: gw_t)) := gw_wsV ml_L_18 (gw_mem 610 (by decide +kernel) (by decide +kernel)) (gw_mem 611 (by decide +kernel) (by decide +kernel)) (gw_mem 63 (by decide +kernel) (by decide +kernel)) cw_X8_slip
theorem ml_L_22 : Cond.methodLink RL 22 yX9_slip ∈ gw_t := gw_mem 1123 (by decide +kernel) (by decide +kernel)
theorem gd_L_22 : GoodIn gw_t (wsV RL 22 RX9 yX9_slip (.code yX9_slip cX9_slip 4 (some .int) :: gw_t)) := gw_wsV ml_L_22 (gw_mem 1124 (by decide +kernel) (by decide +kernel)) (gw_mem 1125 (by decide +kernel) (by decide +kernel)) (gw_mem 80 (by decide +kernel) (by decide +kernel)) cw_X9_slip
theorem ml_L_23 : Cond.methodLink RL 23 yX8_set ∈ gw_t := gw_mem 617 (by decide +kernel) (by decide +kernel)
theorem gd_L_23 : GoodIn gw_t (wsV RL 23 RX8 yX8_set (.code yX8_set cX8_set 5 (some .int) :: gw_t)) := gw_wsV ml_L_23 (gw_mem 618 (by decide +kernel) (by decide +kernel)) (gw_mem 619 (by decide +kernel) (by decide +kernel)) (gw_mem 63 (by decide +kernel) (by decide +kernel)) cw_X8_set
theorem ml_L_26 : Cond.methodLink RL 26 yX9_set ∈ gw_t := gw_mem 1133 (by decide +kernel) (by decide +kernel)
theorem gd_L_26 : GoodIn gw_t (wsV RL 26 RX9 yX9_set (.code yX9_set cX9_set 5 (some .int) :: gw_t)) := gw_wsV ml_L_26 (gw_mem 1134 (by decide +kernel) (by decide +kernel)) (gw_mem 1135 (by decide +kernel) (by decide +kernel)) (gw_mem 80 (by decide +kernel) (by decide +kernel)) cw_X9_set
theorem ml_L_27 : Cond.methodLink RL 27 yX8_told ∈ gw_t := gw_mem 640 (by decide +kernel) (by decide +kernel)
theorem gd_L_27 : GoodIn gw_t (wsV RL 27 RX8 yX8_told (.code yX8_told cX8_told 3 (some .int) :: gw_t)) := gw_wsV ml_L_27 (gw_mem 641 (by decide +kernel) (by decide +kernel)) (gw_mem 642 (by decide +kernel) (by decide +kernel)) (gw_mem 63 (by decide +kernel) (by decide +kernel)) cw_X8_told
theorem ml_L_30 : Cond.methodLink RL 30 yX9_told ∈ gw_t := gw_mem 1147 (by decide +kernel) (by decide +kernel)
theorem gd_L_30 : GoodIn gw_t (wsV RL 30 RX9 yX9_told (.code yX9_told cX9_told 3 (some .int) :: gw_t)) := gw_wsV ml_L_30 (gw_mem 1148 (by decide +kernel) (by decide +kernel)) (gw_mem 1149 (by decide +kernel) (by decide +kernel)) (gw_mem 80 (by decide +kernel) (by decide +kernel)) cw_X9_told
theorem ml_L_31 : Cond.methodLink RL 31 yX8_feed ∈ gw_t := gw_mem 645 (by decide +kernel) (by decide +kernel)
theorem gd_L_31 : GoodIn gw_t (wsV RL 31 RX8 yX8_feed (.code yX8_feed cX8_feed 2 (some .int) :: gw_t)) := gw_wsV ml_L_31 (gw_mem 646 (by decide +kernel) (by decide +kernel)) (gw_mem 647 (by decide +kernel) (by decide +kernel)) (gw_mem 63 (by decide +kernel) (by decide +kernel)) cw_X8_feed
theorem ml_L_35 : Cond.methodLink RL 35 yX9_feed ∈ gw_t := gw_mem 1151 (by decide +kernel) (by decide +kernel)
theorem gd_L_35 : GoodIn gw_t (wsV RL 35 RX9 yX9_feed (.code yX9_feed cX9_feed 2 (some .int) :: gw_t)) := gw_wsV ml_L_35 (gw_mem 1152 (by decide +kernel) (by decide +kernel)) (gw_mem 1153 (by decide +kernel) (by decide +kernel)) (gw_mem 80 (by decide +kernel) (by decide +kernel)) cw_X9_feed
theorem ml_L_36 : Cond.methodLink RL 36 yX8_text ∈ gw_t := gw_mem 649 (by decide +kernel) (by decide +kernel)
theorem gd_L_36 : GoodIn gw_t (wsV RL 36 RX8 yX8_text (.code yX8_text cX8_text 1 (some .int) :: gw_t)) := gw_wsV ml_L_36 (gw_mem 650 (by decide +kernel) (by decide +kernel)) (gw_mem 651 (by decide +kernel) (by decide +kernel)) (gw_mem 63 (by decide +kernel) (by decide +kernel)) cw_X8_text
theorem ml_L_40 : Cond.methodLink RL 40 yX9_text ∈ gw_t := gw_mem 1156 (by decide +kernel) (by decide +kernel)
theorem gd_L_40 : GoodIn gw_t (wsV RL 40 RX9 yX9_text (.code yX9_text cX9_text 2 (some .int) :: gw_t)) := gw_wsV ml_L_40 (gw_mem 1157 (by decide +kernel) (by decide +kernel)) (gw_mem 1158 (by decide +kernel) (by decide +kernel)) (gw_mem 80 (by decide +kernel) (by decide +kernel)) cw_X9_text
theorem ml_L_41 : Cond.methodLink RL 41 yX8_force ∈ gw_t := gw_mem 653 (by decide +kernel) (by decide +kernel)
theorem gd_L_41 : GoodIn gw_t (wsV RL 41 RX8 yX8_force (.code yX8_force cX8_force 3 (some .int) :: gw_t)) := gw_wsV ml_L_41 (gw_mem 654 (by decide +kernel) (by decide +kernel)) (gw_mem 655 (by decide +kernel) (by decide +kernel)) (gw_mem 63 (by decide +kernel) (by decide +kernel)) cw_X8_force
theorem ml_L_44 : Cond.methodLink RL 44 yX9_force ∈ gw_t := gw_mem 1230 (by decide +kernel) (by decide +kernel)
theorem gd_L_44 : GoodIn gw_t (wsV RL 44 RX9 yX9_force (.code yX9_force cX9_force 3 (some .int) :: gw_t)) := gw_wsV ml_L_44 (gw_mem 1231 (by decide +kernel) (by decide +kernel)) (gw_mem 1232 (by decide +kernel) (by decide +kernel)) (gw_mem 80 (by decide +kernel) (by decide +kernel)) cw_X9_force
theorem ml_L_45 : Cond.methodLink RL 45 yX8_evening ∈ gw_t := gw_mem 661 (by decide +kernel) (by decide +kernel)
theorem gd_L_45 : GoodIn gw_t (wsV RL 45 RX8 yX8_evening (.code yX8_evening cX8_evening 3 (some .int) :: gw_t)) := gw_wsV ml_L_45 (gw_mem 662 (by decide +kernel) (by decide +kernel)) (gw_mem 663 (by decide +kernel) (by decide +kernel)) (gw_mem 63 (by decide +kernel) (by decide +kernel)) cw_X8_evening
theorem ml_L_48 : Cond.methodLink RL 48 yX9_evening ∈ gw_t := gw_mem 1234 (by decide +kernel) (by decide +kernel)
theorem gd_L_48 : GoodIn gw_t (wsV RL 48 RX9 yX9_evening (.code yX9_evening cX9_evening 3 (some .int) :: gw_t)) := gw_wsV ml_L_48 (gw_mem 1235 (by decide +kernel) (by decide +kernel)) (gw_mem 1236 (by decide +kernel) (by decide +kernel)) (gw_mem 80 (by decide +kernel) (by decide +kernel)) cw_X9_evening
theorem ml_L_49 : Cond.methodLink RL 49 yX8_best ∈ gw_t := gw_mem 745 (by decide +kernel) (by decide +kernel)
theorem gd_L_49 : GoodIn gw_t (wsV RL 49 RX8 yX8_best (.code yX8_best cX8_best 3 (some .int) :: gw_t)) := gw_wsV ml_L_49 (gw_mem 746 (by decide +kernel) (by decide +kernel)) (gw_mem 747 (by decide +kernel) (by decide +kernel)) (gw_mem 63 (by decide +kernel) (by decide +kernel)) cw_X8_best
theorem ml_L_52 : Cond.methodLink RL 52 yX9_best ∈ gw_t := gw_mem 1291 (by decide +kernel) (by decide +kernel)
theorem gd_L_52 : GoodIn gw_t (wsV RL 52 RX9 yX9_best (.code yX9_best cX9_best 3 (some .int) :: gw_t)) := gw_wsV ml_L_52 (gw_mem 1292 (by decide +kernel) (by decide +kernel)) (gw_mem 1293 (by decide +kernel) (by decide +kernel)) (gw_mem 80 (by decide +kernel) (by decide +kernel)) cw_X9_best
theorem ml_L_53 : Cond.methodLink RL 53 yX8_desk ∈ gw_t := gw_mem 777 (by decide +kernel) (by decide +kernel)
theorem gd_L_53 : GoodIn gw_t (wsV RL 53 RX8 yX8_desk (.code yX8_desk cX8_desk 2 (some .int) :: gw_t)) := gw_wsV ml_L_53 (gw_mem 778 (by decide +kernel) (by decide +kernel)) (gw_mem 779 (by decide +kernel) (by decide +kernel)) (gw_mem 63 (by decide +kernel) (by decide +kernel)) cw_X8_desk
theorem ml_L_56 : Cond.methodLink RL 56 yX9_desk ∈ gw_t := gw_mem 1312 (by decide +kernel) (by decide +kernel)
theorem gd_L_56 : GoodIn gw_t (wsV RL 56 RX9 yX9_desk (.code yX9_desk cX9_desk 2 (some .int) :: gw_t)) := gw_wsV ml_L_56 (gw_mem 1313 (by decide +kernel) (by decide +kernel)) (gw_mem 1314 (by decide +kernel) (by decide +kernel)) (gw_mem 80 (by decide +kernel) (by decide +kernel)) cw_X9_desk
theorem ml_L_57 : Cond.methodLink RL 57 yX8_hold ∈ gw_t := gw_mem 797 (by decide +kernel) (by decide +kernel)
theorem gd_L_57 : GoodIn gw_t (wsV RL 57 RX8 yX8_hold (.code yX8_hold cX8_hold 2 (some .int) :: gw_t)) := gw_wsV ml_L_57 (gw_mem 798 (by decide +kernel) (by decide +kernel)) (gw_mem 799 (by decide +kernel) (by decide +kernel)) (gw_mem 63 (by decide +kernel) (by decide +kernel)) cw_X8_hold
theorem ml_L_60 : Cond.methodLink RL 60 yX9_hold ∈ gw_t := gw_mem 1287 (by decide +kernel) (by decide +kernel)
theorem gd_L_60 : GoodIn gw_t (wsV RL 60 RX9 yX9_hold (.code yX9_hold cX9_hold 2 (some .int) :: gw_t)) := gw_wsV ml_L_60 (gw_mem 1288 (by decide +kernel) (by decide +kernel)) (gw_mem 1289 (by decide +kernel) (by decide +kernel)) (gw_mem 80 (by decide +kernel) (by decide +kernel)) cw_X9_hold
theorem ml_L_61 : Cond.methodLink RL 61 yX8_wait ∈ gw_t := gw_mem 801 (by decide +kernel) (by decide +kernel)
theorem gd_L_61 : GoodIn gw_t (wsV RL 61 RX8 yX8_wait (.code yX8_wait cX8_wait 2 (some .int) :: gw_t)) := gw_wsV ml_L_61 (gw_mem 802 (by decide +kernel) (by decide +kernel)) (gw_mem 803 (by decide +kernel) (by decide +kernel)) (gw_mem 63 (by decide +kernel) (by decide +kernel)) cw_X8_wait
theorem ml_L_64 : Cond.methodLink RL 64 yX9_wait ∈ gw_t := gw_mem 1328 (by decide +kernel) (by decide +kernel)
theorem gd_L_64 : GoodIn gw_t (wsV RL 64 RX9 yX9_wait (.code yX9_wait cX9_wait 2 (some .int) :: gw_t)) := gw_wsV ml_L_64 (gw_mem 1329 (by decide +kernel) (by decide +kernel)) (gw_mem 1330 (by decide +kernel) (by decide +kernel)) (gw_mem 80 (by decide +kernel) (by decide +kernel)) cw_X9_wait
theorem ml_L_65 : Cond.methodLink RL 65 yX8_refuse ∈ gw_t := gw_mem 805 (by decide +kernel) (by decide +kernel)
theorem gd_L_65 : GoodIn gw_t (wsV RL 65 RX8 yX8_refuse (.code yX8_refuse cX8_refuse 5 (some .int) :: gw_t)) := gw_wsV ml_L_65 (gw_mem 806 (by decide +kernel) (by decide +kernel)) (gw_mem 807 (by decide +kernel) (by decide +kernel)) (gw_mem 63 (by decide +kernel) (by decide +kernel)) cw_X8_refuse
theorem ml_L_68 : Cond.methodLink RL 68 yX9_refuse ∈ gw_t := gw_mem 1332 (by decide +kernel) (by decide +kernel)
theorem gd_L_68 : GoodIn gw_t (wsV RL 68 RX9 yX9_refuse (.code yX9_refuse cX9_refuse 5 (some .int) :: gw_t)) := gw_wsV ml_L_68 (gw_mem 1333 (by decide +kernel) (by decide +kernel)) (gw_mem 1334 (by decide +kernel) (by decide +kernel)) (gw_mem 80 (by decide +kernel) (by decide +kernel)) cw_X9_refuse
theorem ml_L_69 : Cond.methodLink RL 69 yX8_coin ∈ gw_t := gw_mem 809 (by decide +kernel) (by decide +kernel)
theorem gd_L_69 : GoodIn gw_t (wsV RL 69 RX8 yX8_coin (.code yX8_coin cX8_coin 3 (some .int) :: gw_t)) := gw_wsV ml_L_69 (gw_mem 810 (by decide +kernel) (by decide +kernel)) (gw_mem 811 (by decide +kernel) (by decide +kernel)) (gw_mem 63 (by decide +kernel) (by decide +kernel)) cw_X8_coin
theorem ml_L_72 : Cond.methodLink RL 72 yX9_coin ∈ gw_t := gw_mem 1336 (by decide +kernel) (by decide +kernel)
theorem gd_L_72 : GoodIn gw_t (wsV RL 72 RX9 yX9_coin (.code yX9_coin cX9_coin 3 (some .int) :: gw_t)) := gw_wsV ml_L_72 (gw_mem 1337 (by decide +kernel) (by decide +kernel)) (gw_mem 1338 (by decide +kernel) (by decide +kernel)) (gw_mem 80 (by decide +kernel) (by decide +kernel)) cw_X9_coin
theorem ml_L_73 : Cond.methodLink RL 73 yX8_harm ∈ gw_t := gw_mem 814 (by decide +kernel) (by decide +kernel)
theorem gd_L_73 : GoodIn gw_t (wsV RL 73 RX8 yX8_harm (.code yX8_harm cX8_harm 3 (some .int) :: gw_t)) := gw_wsV ml_L_73 (gw_mem 815 (by decide +kernel) (by decide +kernel)) (gw_mem 816 (by decide +kernel) (by decide +kernel)) (gw_mem 63 (by decide +kernel) (by decide +kernel)) cw_X8_harm
theorem ml_L_76 : Cond.methodLink RL 76 yX9_harm ∈ gw_t := gw_mem 1340 (by decide +kernel) (by decide +kernel)
theorem gd_L_76 : GoodIn gw_t (wsV RL 76 RX9 yX9_harm (.code yX9_harm cX9_harm 3 (some .int) :: gw_t)) := gw_wsV ml_L_76 (gw_mem 1341 (by decide +kernel) (by decide +kernel)) (gw_mem 1342 (by decide +kernel) (by decide +kernel)) (gw_mem 80 (by decide +kernel) (by decide +kernel)) cw_X9_harm
theorem ml_L_77 : Cond.methodLink RL 77 yX8_judge ∈ gw_t := gw_mem 818 (by decide +kernel) (by decide +kernel)
theorem gd_L_77 : GoodIn gw_t (wsV RL 77 RX8 yX8_judge (.code yX8_judge cX8_judge 2 (some .int) :: gw_t)) := gw_wsV ml_L_77 (gw_mem 819 (by decide +kernel) (by decide +kernel)) (gw_mem 820 (by decide +kernel) (by decide +kernel)) (gw_mem 63 (by decide +kernel) (by decide +kernel)) cw_X8_judge
theorem ml_L_80 : Cond.methodLink RL 80 yX9_judge ∈ gw_t := gw_mem 1344 (by decide +kernel) (by decide +kernel)
theorem gd_L_80 : GoodIn gw_t (wsV RL 80 RX9 yX9_judge (.code yX9_judge cX9_judge 3 (some .int) :: gw_t)) := gw_wsV ml_L_80 (gw_mem 1345 (by decide +kernel) (by decide +kernel)) (gw_mem 1346 (by decide +kernel) (by decide +kernel)) (gw_mem 80 (by decide +kernel) (by decide +kernel)) cw_X9_judge
theorem ml_L_81 : Cond.methodLink RL 81 yX8_which ∈ gw_t := gw_mem 829 (by decide +kernel) (by decide +kernel)
theorem gd_L_81 : GoodIn gw_t (wsV RL 81 RX8 yX8_which (.code yX8_which cX8_which 4 (some .int) :: gw_t)) := gw_wsV ml_L_81 (gw_mem 830 (by decide +kernel) (by decide +kernel)) (gw_mem 831 (by decide +kernel) (by decide +kernel)) (gw_mem 63 (by decide +kernel) (by decide +kernel)) cw_X8_which
theorem ml_L_84 : Cond.methodLink RL 84 yX9_which ∈ gw_t := gw_mem 1359 (by decide +kernel) (by decide +kernel)
theorem gd_L_84 : GoodIn gw_t (wsV RL 84 RX9 yX9_which (.code yX9_which cX9_which 5 (some .int) :: gw_t)) := gw_wsV ml_L_84 (gw_mem 1360 (by decide +kernel) (by decide +kernel)) (gw_mem 1361 (by decide +kernel) (by decide +kernel)) (gw_mem 80 (by decide +kernel) (by decide +kernel)) cw_X9_which
theorem ml_L_85 : Cond.methodLink RL 85 yX8_behind ∈ gw_t := gw_mem 833 (by decide +kernel) (by decide +kernel)
theorem gd_L_85 : GoodIn gw_t (wsV RL 85 RX8 yX8_behind (.code yX8_behind cX8_behind 5 (some .int) :: gw_t)) := gw_wsV ml_L_85 (gw_mem 834 (by decide +kernel) (by decide +kernel)) (gw_mem 835 (by decide +kernel) (by decide +kernel)) (gw_mem 63 (by decide +kernel) (by decide +kernel)) cw_X8_behind
theorem ml_L_88 : Cond.methodLink RL 88 yX9_behind ∈ gw_t := gw_mem 1363 (by decide +kernel) (by decide +kernel)
theorem gd_L_88 : GoodIn gw_t (wsV RL 88 RX9 yX9_behind (.code yX9_behind cX9_behind 4 (some .int) :: gw_t)) := gw_wsV ml_L_88 (gw_mem 1364 (by decide +kernel) (by decide +kernel)) (gw_mem 1365 (by decide +kernel) (by decide +kernel)) (gw_mem 80 (by decide +kernel) (by decide +kernel)) cw_X9_behind
theorem ml_L_89 : Cond.methodLink RL 89 yX8_drawn ∈ gw_t := gw_mem 837 (by decide +kernel) (by decide +kernel)
theorem gd_L_89 : GoodIn gw_t (wsV RL 89 RX8 yX8_drawn (.code yX8_drawn cX8_drawn 2 (some .int) :: gw_t)) := gw_wsV ml_L_89 (gw_mem 838 (by decide +kernel) (by decide +kernel)) (gw_mem 839 (by decide +kernel) (by decide +kernel)) (gw_mem 63 (by decide +kernel) (by decide +kernel)) cw_X8_drawn
theorem ml_L_92 : Cond.methodLink RL 92 yX9_drawn ∈ gw_t := gw_mem 1367 (by decide +kernel) (by decide +kernel)
theorem gd_L_92 : GoodIn gw_t (wsV RL 92 RX9 yX9_drawn (.code yX9_drawn cX9_drawn 2 (some .int) :: gw_t)) := gw_wsV ml_L_92 (gw_mem 1368 (by decide +kernel) (by decide +kernel)) (gw_mem 1369 (by decide +kernel) (by decide +kernel)) (gw_mem 80 (by decide +kernel) (by decide +kernel)) cw_X9_drawn
theorem ml_L_93 : Cond.methodLink RL 93 yX8_chance ∈ gw_t := gw_mem 850 (by decide +kernel) (by decide +kernel)
theorem gd_L_93 : GoodIn gw_t (wsV RL 93 RX8 yX8_chance (.code yX8_chance cX8_chance 6 (some .long) :: gw_t)) := gw_wsV ml_L_93 (gw_mem 851 (by decide +kernel) (by decide +kernel)) (gw_mem 852 (by decide +kernel) (by decide +kernel)) (gw_mem 63 (by decide +kernel) (by decide +kernel)) cw_X8_chance
theorem ml_L_97 : Cond.methodLink RL 97 yX9_chance ∈ gw_t := gw_mem 1376 (by decide +kernel) (by decide +kernel)
theorem gd_L_97 : GoodIn gw_t (wsV RL 97 RX9 yX9_chance (.code yX9_chance cX9_chance 12 (some .long) :: gw_t)) := gw_wsV ml_L_97 (gw_mem 1377 (by decide +kernel) (by decide +kernel)) (gw_mem 1378 (by decide +kernel) (by decide +kernel)) (gw_mem 80 (by decide +kernel) (by decide +kernel)) cw_X9_chance
theorem ml_L_98 : Cond.methodLink RL 98 yX8_image ∈ gw_t := gw_mem 858 (by decide +kernel) (by decide +kernel)
theorem gd_L_98 : GoodIn gw_t (wsV RL 98 RX8 yX8_image (.code yX8_image cX8_image 1 (some .int) :: gw_t)) := gw_wsV ml_L_98 (gw_mem 859 (by decide +kernel) (by decide +kernel)) (gw_mem 860 (by decide +kernel) (by decide +kernel)) (gw_mem 63 (by decide +kernel) (by decide +kernel)) cw_X8_image
theorem ml_L_101 : Cond.methodLink RL 101 yX9_image ∈ gw_t := gw_mem 1382 (by decide +kernel) (by decide +kernel)
theorem gd_L_101 : GoodIn gw_t (wsV RL 101 RX9 yX9_image (.code yX9_image cX9_image 2 (some .int) :: gw_t)) := gw_wsV ml_L_101 (gw_mem 1383 (by decide +kernel) (by decide +kernel)) (gw_mem 1384 (by decide +kernel) (by decide +kernel)) (gw_mem 80 (by decide +kernel) (by decide +kernel)) cw_X9_image
theorem ml_L_102 : Cond.methodLink RL 102 yX8_back ∈ gw_t := gw_mem 874 (by decide +kernel) (by decide +kernel)
theorem gd_L_102 : GoodIn gw_t (wsV RL 102 RX8 yX8_back (.code yX8_back cX8_back 1 (some .int) :: gw_t)) := gw_wsV ml_L_102 (gw_mem 875 (by decide +kernel) (by decide +kernel)) (gw_mem 876 (by decide +kernel) (by decide +kernel)) (gw_mem 63 (by decide +kernel) (by decide +kernel)) cw_X8_back
theorem ml_L_105 : Cond.methodLink RL 105 yX9_back ∈ gw_t := gw_mem 1386 (by decide +kernel) (by decide +kernel)
theorem gd_L_105 : GoodIn gw_t (wsV RL 105 RX9 yX9_back (.code yX9_back cX9_back 2 (some .int) :: gw_t)) := gw_wsV ml_L_105 (gw_mem 1387 (by decide +kernel) (by decide +kernel)) (gw_mem 1388 (by decide +kernel) (by decide +kernel)) (gw_mem 80 (by decide +kernel) (by decide +kernel)) cw_X9_back
theorem ml_L_106 : Cond.methodLink RL 106 yX8_count ∈ gw_t := gw_mem 878 (by decide +kernel) (by decide +kernel)
theorem gd_L_106 : GoodIn gw_t (wsV RL 106 RX8 yX8_count (.code yX8_count cX8_count 2 (some .int) :: gw_t)) := gw_wsV ml_L_106 (gw_mem 879 (by decide +kernel) (by decide +kernel)) (gw_mem 880 (by decide +kernel) (by decide +kernel)) (gw_mem 63 (by decide +kernel) (by decide +kernel)) cw_X8_count
theorem ml_L_109 : Cond.methodLink RL 109 yX9_count ∈ gw_t := gw_mem 1390 (by decide +kernel) (by decide +kernel)
theorem gd_L_109 : GoodIn gw_t (wsV RL 109 RX9 yX9_count (.code yX9_count cX9_count 2 (some .int) :: gw_t)) := gw_wsV ml_L_109 (gw_mem 1391 (by decide +kernel) (by decide +kernel)) (gw_mem 1392 (by decide +kernel) (by decide +kernel)) (gw_mem 80 (by decide +kernel) (by decide +kernel)) cw_X9_count
theorem ml_L_110 : Cond.methodLink RL 110 yX8_sheet ∈ gw_t := gw_mem 882 (by decide +kernel) (by decide +kernel)
theorem gd_L_110 : GoodIn gw_t (wsV RL 110 RX8 yX8_sheet (.code yX8_sheet cX8_sheet 4 (some .int) :: gw_t)) := gw_wsV ml_L_110 (gw_mem 883 (by decide +kernel) (by decide +kernel)) (gw_mem 884 (by decide +kernel) (by decide +kernel)) (gw_mem 63 (by decide +kernel) (by decide +kernel)) cw_X8_sheet
theorem ml_L_113 : Cond.methodLink RL 113 yX9_sheet ∈ gw_t := gw_mem 1394 (by decide +kernel) (by decide +kernel)
theorem gd_L_113 : GoodIn gw_t (wsV RL 113 RX9 yX9_sheet (.code yX9_sheet cX9_sheet 5 (some .int) :: gw_t)) := gw_wsV ml_L_113 (gw_mem 1395 (by decide +kernel) (by decide +kernel)) (gw_mem 1396 (by decide +kernel) (by decide +kernel)) (gw_mem 80 (by decide +kernel) (by decide +kernel)) cw_X9_sheet
theorem ml_L_114 : Cond.methodLink RL 114 yX8_cell ∈ gw_t := gw_mem 891 (by decide +kernel) (by decide +kernel)
theorem gd_L_114 : GoodIn gw_t (wsV RL 114 RX8 yX8_cell (.code yX8_cell cX8_cell 5 (some .int) :: gw_t)) := gw_wsV ml_L_114 (gw_mem 892 (by decide +kernel) (by decide +kernel)) (gw_mem 893 (by decide +kernel) (by decide +kernel)) (gw_mem 63 (by decide +kernel) (by decide +kernel)) cw_X8_cell
theorem ml_L_117 : Cond.methodLink RL 117 yX9_cell ∈ gw_t := gw_mem 1399 (by decide +kernel) (by decide +kernel)
theorem gd_L_117 : GoodIn gw_t (wsV RL 117 RX9 yX9_cell (.code yX9_cell cX9_cell 4 (some .int) :: gw_t)) := gw_wsV ml_L_117 (gw_mem 1400 (by decide +kernel) (by decide +kernel)) (gw_mem 1401 (by decide +kernel) (by decide +kernel)) (gw_mem 80 (by decide +kernel) (by decide +kernel)) cw_X9_cell
theorem ml_L_118 : Cond.methodLink RL 118 yX8_copy ∈ gw_t := gw_mem 903 (by decide +kernel) (by decide +kernel)
theorem gd_L_118 : GoodIn gw_t (wsV RL 118 RX8 yX8_copy (.code yX8_copy cX8_copy 8 (some .int) :: gw_t)) := gw_wsV ml_L_118 (gw_mem 904 (by decide +kernel) (by decide +kernel)) (gw_mem 905 (by decide +kernel) (by decide +kernel)) (gw_mem 63 (by decide +kernel) (by decide +kernel)) cw_X8_copy
theorem ml_L_122 : Cond.methodLink RL 122 yX9_copy ∈ gw_t := gw_mem 1403 (by decide +kernel) (by decide +kernel)
theorem gd_L_122 : GoodIn gw_t (wsV RL 122 RX9 yX9_copy (.code yX9_copy cX9_copy 9 (some .int) :: gw_t)) := gw_wsV ml_L_122 (gw_mem 1404 (by decide +kernel) (by decide +kernel)) (gw_mem 1405 (by decide +kernel) (by decide +kernel)) (gw_mem 80 (by decide +kernel) (by decide +kernel)) cw_X9_copy
theorem ml_L_123 : Cond.methodLink RL 123 yX8_slips ∈ gw_t := gw_mem 908 (by decide +kernel) (by decide +kernel)
theorem gd_L_123 : GoodIn gw_t (wsV RL 123 RX8 yX8_slips (.code yX8_slips cX8_slips 9 (some .int) :: gw_t)) := gw_wsV ml_L_123 (gw_mem 909 (by decide +kernel) (by decide +kernel)) (gw_mem 910 (by decide +kernel) (by decide +kernel)) (gw_mem 63 (by decide +kernel) (by decide +kernel)) cw_X8_slips
theorem ml_L_127 : Cond.methodLink RL 127 yX9_slips ∈ gw_t := gw_mem 1407 (by decide +kernel) (by decide +kernel)
theorem gd_L_127 : GoodIn gw_t (wsV RL 127 RX9 yX9_slips (.code yX9_slips cX9_slips 8 (some .int) :: gw_t)) := gw_wsV ml_L_127 (gw_mem 1408 (by decide +kernel) (by decide +kernel)) (gw_mem 1409 (by decide +kernel) (by decide +kernel)) (gw_mem 80 (by decide +kernel) (by decide +kernel)) cw_X9_slips
theorem ml_L_128 : Cond.methodLink RL 128 yX8_taken ∈ gw_t := gw_mem 912 (by decide +kernel) (by decide +kernel)
theorem gd_L_128 : GoodIn gw_t (wsV RL 128 RX8 yX8_taken (.code yX8_taken cX8_taken 3 (some .int) :: gw_t)) := gw_wsV ml_L_128 (gw_mem 913 (by decide +kernel) (by decide +kernel)) (gw_mem 914 (by decide +kernel) (by decide +kernel)) (gw_mem 63 (by decide +kernel) (by decide +kernel)) cw_X8_taken
theorem ml_L_131 : Cond.methodLink RL 131 yX9_taken ∈ gw_t := gw_mem 1412 (by decide +kernel) (by decide +kernel)
theorem gd_L_131 : GoodIn gw_t (wsV RL 131 RX9 yX9_taken (.code yX9_taken cX9_taken 4 (some .int) :: gw_t)) := gw_wsV ml_L_131 (gw_mem 1413 (by decide +kernel) (by decide +kernel)) (gw_mem 1414 (by decide +kernel) (by decide +kernel)) (gw_mem 80 (by decide +kernel) (by decide +kernel)) cw_X9_taken
theorem ml_X0_81 : Cond.methodLink RX0 81 yX0_rowAsDigits ∈ gw_t := gw_mem 741 (by decide +kernel) (by decide +kernel)
theorem gd_X0_81 : GoodIn gw_t (wsV RX0 81 RX0 yX0_rowAsDigits (.code yX0_rowAsDigits cX0_rowAsDigits 3 (some .int) :: gw_t)) := gw_wsV ml_X0_81 (gw_mem 743 (by decide +kernel) (by decide +kernel)) (gw_mem 15 (by decide +kernel) (by decide +kernel)) (gw_mem 68 (by decide +kernel) (by decide +kernel)) cw_X0_rowAsDigits
theorem ml_X0_38 : Cond.methodLink RX0 38 yJ7_fill_53178 ∈ gw_t := gw_mem 677 (by decide +kernel) (by decide +kernel)
theorem gd_X0_38 : GoodIn gw_t (va_wsS RX0 38 yJ7_fill_53178 (.code yJ7_fill_53178 cJ7_fill_53178 4 none :: gw_t)) := gw_wsS ml_X0_38 (gw_mem 678 (by decide +kernel) (by decide +kernel)) (gw_mem 77 (by decide +kernel) (by decide +kernel)) cw_J7_fill_53178
theorem ml_X0_176 : Cond.methodLink RX0 176 yX0_uncalled ∈ gw_t := gw_mem 846 (by decide +kernel) (by decide +kernel)
theorem gd_X0_176 : GoodIn gw_t (wsV RX0 176 RX0 yX0_uncalled (.code yX0_uncalled cX0_uncalled 4 (some .int) :: gw_t)) := gw_wsV ml_X0_176 (gw_mem 848 (by decide +kernel) (by decide +kernel)) (gw_mem 22 (by decide +kernel) (by decide +kernel)) (gw_mem 68 (by decide +kernel) (by decide +kernel)) cw_X0_uncalled
theorem ml_X0_165 : Cond.methodLink RX0 165 yX0_callSlip ∈ gw_t := gw_mem 685 (by decide +kernel) (by decide +kernel)
theorem gd_X0_165 : GoodIn gw_t (wsV RX0 165 RX0 yX0_callSlip (.code yX0_callSlip cX0_callSlip 5 none :: gw_t)) := gw_wsV ml_X0_165 (gw_mem 686 (by decide +kernel) (by decide +kernel)) (gw_mem 687 (by decide +kernel) (by decide +kernel)) (gw_mem 68 (by decide +kernel) (by decide +kernel)) cw_X0_callSlip
theorem ml_X0_169 : Cond.methodLink RX0 169 yX0_firstByDesk ∈ gw_t := gw_mem 793 (by decide +kernel) (by decide +kernel)
theorem gd_X0_169 : GoodIn gw_t (wsV RX0 169 RX0 yX0_firstByDesk (.code yX0_firstByDesk cX0_firstByDesk 7 (some .int) :: gw_t)) := gw_wsV ml_X0_169 (gw_mem 795 (by decide +kernel) (by decide +kernel)) (gw_mem 20 (by decide +kernel) (by decide +kernel)) (gw_mem 68 (by decide +kernel) (by decide +kernel)) cw_X0_firstByDesk
theorem ml_X0_85 : Cond.methodLink RX0 85 yX1_hasSlip ∈ gw_t := gw_mem 689 (by decide +kernel) (by decide +kernel)
theorem gd_X0_85 : GoodIn gw_t (wsV RX0 85 RX1 yX1_hasSlip (.code yX1_hasSlip cX1_hasSlip 2 (some .boolean) :: gw_t)) := gw_wsV ml_X0_85 (gw_mem 626 (by decide +kernel) (by decide +kernel)) (gw_mem 627 (by decide +kernel) (by decide +kernel)) (gw_mem 64 (by decide +kernel) (by decide +kernel)) cw_X1_hasSlip
theorem ml_X0_104 : Cond.methodLink RX0 104 yX0_wasCalled ∈ gw_t := gw_mem 690 (by decide +kernel) (by decide +kernel)
theorem gd_X0_104 : GoodIn gw_t (wsV RX0 104 RX0 yX0_wasCalled (.code yX0_wasCalled cX0_wasCalled 2 (some .boolean) :: gw_t)) := gw_wsV ml_X0_104 (gw_mem 691 (by decide +kernel) (by decide +kernel)) (gw_mem 692 (by decide +kernel) (by decide +kernel)) (gw_mem 68 (by decide +kernel) (by decide +kernel)) cw_X0_wasCalled
theorem ml_X0_107 : Cond.methodLink RX0 107 yX0_wouldBeSung ∈ gw_t := gw_mem 694 (by decide +kernel) (by decide +kernel)
theorem gd_X0_107 : GoodIn gw_t (wsV RX0 107 RX0 yX0_wouldBeSung (.code yX0_wouldBeSung cX0_wouldBeSung 3 (some .boolean) :: gw_t)) := gw_wsV ml_X0_107 (gw_mem 696 (by decide +kernel) (by decide +kernel)) (gw_mem 12 (by decide +kernel) (by decide +kernel)) (gw_mem 68 (by decide +kernel) (by decide +kernel)) cw_X0_wouldBeSung
theorem ml_X0_110 : Cond.methodLink RX0 110 yX1_groupOf ∈ gw_t := gw_mem 698 (by decide +kernel) (by decide +kernel)
theorem gd_X0_110 : GoodIn gw_t (wsV RX0 110 RX1 yX1_groupOf (.code yX1_groupOf cX1_groupOf 2 (some .int) :: gw_t)) := gw_wsV ml_X0_110 (gw_mem 699 (by decide +kernel) (by decide +kernel)) (gw_mem 700 (by decide +kernel) (by decide +kernel)) (gw_mem 64 (by decide +kernel) (by decide +kernel)) cw_X1_groupOf
theorem ml_X0_114 : Cond.methodLink RX0 114 yX6_moves ∈ gw_t := gw_mem 702 (by decide +kernel) (by decide +kernel)
theorem gd_X0_114 : GoodIn gw_t (wsV RX0 114 RX6 yX6_moves (.code yX6_moves cX6_moves 2 (some .int) :: gw_t)) := gw_wsV ml_X0_114 (gw_mem 703 (by decide +kernel) (by decide +kernel)) (gw_mem 704 (by decide +kernel) (by decide +kernel)) (gw_mem 66 (by decide +kernel) (by decide +kernel)) cw_X6_moves
theorem ml_X0_118 : Cond.methodLinkNest RX0 118 yX8_within "WhoSingsNext" ∈ nw_t := nw_mem 706 (by decide +kernel) (by decide +kernel)
theorem gs_X0_118 : Cond.static yX8_within ∈ gw_t ∧ Cond.initialized yX8_within.cls ∈ gw_t := ⟨gw_mem 707 (by decide +kernel) (by decide +kernel), gw_mem 63 (by decide +kernel) (by decide +kernel)⟩
theorem ml_X0_125 : Cond.methodLink RX0 125 yX0_nameAll ∈ gw_t := gw_mem 711 (by decide +kernel) (by decide +kernel)
theorem gd_X0_125 : GoodIn gw_t (wsV RX0 125 RX0 yX0_nameAll (.code yX0_nameAll cX0_nameAll 4 none :: gw_t)) := gw_wsV ml_X0_125 (gw_mem 713 (by decide +kernel) (by decide +kernel)) (gw_mem 13 (by decide +kernel) (by decide +kernel)) (gw_mem 68 (by decide +kernel) (by decide +kernel)) cw_X0_nameAll
theorem ml_X0_131 : Cond.methodLink RX0 131 yX7_worth ∈ gw_t := gw_mem 715 (by decide +kernel) (by decide +kernel)
theorem gd_X0_131 : GoodIn gw_t (wsV RX0 131 RX7 yX7_worth (.code yX7_worth cX7_worth 9 (some .int) :: gw_t)) := gw_wsV ml_X0_131 (gw_mem 716 (by decide +kernel) (by decide +kernel)) (gw_mem 717 (by decide +kernel) (by decide +kernel)) (gw_mem 76 (by decide +kernel) (by decide +kernel)) cw_X7_worth
theorem ml_X0_135 : Cond.methodLink RX0 135 yJ6_bitCount_0f7a4 ∈ gw_t := gw_mem 722 (by decide +kernel) (by decide +kernel)
theorem gd_X0_135 : GoodIn gw_t (va_wsS RX0 135 yJ6_bitCount_0f7a4 (.code yJ6_bitCount_0f7a4 cJ6_bitCount_0f7a4 1 (some .int) :: gw_t)) := gw_wsS ml_X0_135 (gw_mem 723 (by decide +kernel) (by decide +kernel)) (gw_mem 81 (by decide +kernel) (by decide +kernel)) cw_J6_bitCount_0f7a4
theorem ml_X0_140 : Cond.methodLink RX0 140 yX6_thirst ∈ gw_t := gw_mem 728 (by decide +kernel) (by decide +kernel)
theorem gd_X0_140 : GoodIn gw_t (wsV RX0 140 RX6 yX6_thirst (.code yX6_thirst cX6_thirst 2 (some .int) :: gw_t)) := gw_wsV ml_X0_140 (gw_mem 729 (by decide +kernel) (by decide +kernel)) (gw_mem 730 (by decide +kernel) (by decide +kernel)) (gw_mem 66 (by decide +kernel) (by decide +kernel)) cw_X6_thirst
theorem ml_X0_143 : Cond.methodLink RX0 143 yJ9_max_7cf53 ∈ gw_t := gw_mem 732 (by decide +kernel) (by decide +kernel)
theorem gd_X0_143 : GoodIn gw_t (va_wsS RX0 143 yJ9_max_7cf53 (.code yJ9_max_7cf53 cJ9_max_7cf53 2 (some .int) :: gw_t)) := gw_wsS ml_X0_143 (gw_mem 435 (by decide +kernel) (by decide +kernel)) (gw_mem 74 (by decide +kernel) (by decide +kernel)) cw_J9_max_7cf53
theorem ml_X0_149 : Cond.methodLink RX0 149 yX0_letLeave ∈ gw_t := gw_mem 733 (by decide +kernel) (by decide +kernel)
theorem gd_X0_149 : GoodIn gw_t (wsV RX0 149 RX0 yX0_letLeave (.code yX0_letLeave cX0_letLeave 5 none :: gw_t)) := gw_wsV ml_X0_149 (gw_mem 735 (by decide +kernel) (by decide +kernel)) (gw_mem 14 (by decide +kernel) (by decide +kernel)) (gw_mem 68 (by decide +kernel) (by decide +kernel)) cw_X0_letLeave
theorem ml_X1_47 : Cond.methodLink RX1 47 yX1_hasPerson ∈ gw_t := gw_mem 601 (by decide +kernel) (by decide +kernel)
theorem gd_X1_47 : GoodIn gw_t (wsV RX1 47 RX1 yX1_hasPerson (.code yX1_hasPerson cX1_hasPerson 2 (some .boolean) :: gw_t)) := gw_wsV ml_X1_47 (gw_mem 602 (by decide +kernel) (by decide +kernel)) (gw_mem 603 (by decide +kernel) (by decide +kernel)) (gw_mem 64 (by decide +kernel) (by decide +kernel)) cw_X1_hasPerson
theorem ml_X1_76 : Cond.methodLink RX1 76 yX2_become ∈ gw_t := gw_mem 866 (by decide +kernel) (by decide +kernel)
theorem gd_X1_76 : GoodIn gw_t (wsV RX1 76 RX2 yX2_become (.code yX2_become cX2_become 2 none :: gw_t)) := gw_wsV ml_X1_76 (gw_mem 867 (by decide +kernel) (by decide +kernel)) (gw_mem 868 (by decide +kernel) (by decide +kernel)) (gw_mem 65 (by decide +kernel) (by decide +kernel)) cw_X2_become
theorem ml_X1_80 : Cond.methodLink RX1 80 yX6_become ∈ gw_t := gw_mem 870 (by decide +kernel) (by decide +kernel)
theorem gd_X1_80 : GoodIn gw_t (wsV RX1 80 RX6 yX6_become (.code yX6_become cX6_become 2 none :: gw_t)) := gw_wsV ml_X1_80 (gw_mem 871 (by decide +kernel) (by decide +kernel)) (gw_mem 872 (by decide +kernel) (by decide +kernel)) (gw_mem 66 (by decide +kernel) (by decide +kernel)) cw_X6_become
theorem ml_X1_63 : Cond.methodLink RX1 63 yX1_hasValue ∈ gw_t := gw_mem 634 (by decide +kernel) (by decide +kernel)
theorem gd_X1_63 : GoodIn gw_t (wsV RX1 63 RX1 yX1_hasValue (.code yX1_hasValue cX1_hasValue 3 (some .boolean) :: gw_t)) := gw_wsV ml_X1_63 (gw_mem 622 (by decide +kernel) (by decide +kernel)) (gw_mem 623 (by decide +kernel) (by decide +kernel)) (gw_mem 64 (by decide +kernel) (by decide +kernel)) cw_X1_hasValue
theorem ml_X1_70 : Cond.methodLink RX1 70 yX1_allows ∈ gw_t := gw_mem 639 (by decide +kernel) (by decide +kernel)
theorem gd_X1_70 : GoodIn gw_t (wsV RX1 70 RX1 yX1_allows (.code yX1_allows cX1_allows 3 (some .boolean) :: gw_t)) := gw_wsV ml_X1_70 (gw_mem 598 (by decide +kernel) (by decide +kernel)) (gw_mem 599 (by decide +kernel) (by decide +kernel)) (gw_mem 64 (by decide +kernel) (by decide +kernel)) cw_X1_allows
theorem ml_X1_60 : Cond.methodLink RX1 60 yX1_hasSlip ∈ gw_t := gw_mem 625 (by decide +kernel) (by decide +kernel)
theorem gd_X1_60 : GoodIn gw_t (wsV RX1 60 RX1 yX1_hasSlip (.code yX1_hasSlip cX1_hasSlip 2 (some .boolean) :: gw_t)) := gw_wsV ml_X1_60 (gw_mem 626 (by decide +kernel) (by decide +kernel)) (gw_mem 627 (by decide +kernel) (by decide +kernel)) (gw_mem 64 (by decide +kernel) (by decide +kernel)) cw_X1_hasSlip
theorem ml_X3_56 : Cond.methodLink RX3 56 yJ7_copyOf_59c91 ∈ gw_t := gw_mem 515 (by decide +kernel) (by decide +kernel)
theorem gd_X3_56 : GoodIn gw_t (va_wsS RX3 56 yJ7_copyOf_59c91 (.code yJ7_copyOf_59c91 cJ7_copyOf_59c91 3 (some (.array .int)) :: gw_t)) := gw_wsS ml_X3_56 (gw_mem 516 (by decide +kernel) (by decide +kernel)) (gw_mem 77 (by decide +kernel) (by decide +kernel)) cw_J7_copyOf_59c91
theorem ml_X3_31 : Cond.methodLink RX3 31 yX3_readToken ∈ gw_t := gw_mem 382 (by decide +kernel) (by decide +kernel)
theorem gd_X3_31 : GoodIn gw_t (wsV RX3 31 RX3 yX3_readToken (.code yX3_readToken cX3_readToken 1 none :: gw_t)) := gw_wsV ml_X3_31 (gw_mem 384 (by decide +kernel) (by decide +kernel)) (gw_mem 0 (by decide +kernel) (by decide +kernel)) (gw_mem 67 (by decide +kernel) (by decide +kernel)) cw_X3_readToken
theorem ml_X3_51 : Cond.methodLink RX3 51 yX3_fail ∈ gw_t := gw_mem 482 (by decide +kernel) (by decide +kernel)
theorem gd_X3_51 : GoodIn gw_t (wsV RX3 51 RX3 yX3_fail (.code yX3_fail cX3_fail 1 none :: gw_t)) := gw_wsV ml_X3_51 (gw_mem 484 (by decide +kernel) (by decide +kernel)) (gw_mem 5 (by decide +kernel) (by decide +kernel)) (gw_mem 67 (by decide +kernel) (by decide +kernel)) cw_X3_fail
theorem ml_X3_68 : Cond.methodLink RX3 68 yX3_readOne ∈ gw_t := gw_mem 490 (by decide +kernel) (by decide +kernel)
theorem gd_X3_68 : GoodIn gw_t (wsV RX3 68 RX3 yX3_readOne (.code yX3_readOne cX3_readOne 2 none :: gw_t)) := gw_wsV ml_X3_68 (gw_mem 492 (by decide +kernel) (by decide +kernel)) (gw_mem 7 (by decide +kernel) (by decide +kernel)) (gw_mem 67 (by decide +kernel) (by decide +kernel)) cw_X3_readOne
theorem ml_X3_71 : Cond.methodLink RX3 71 yX3_readNot ∈ gw_t := gw_mem 501 (by decide +kernel) (by decide +kernel)
theorem gd_X3_71 : GoodIn gw_t (wsV RX3 71 RX3 yX3_readNot (.code yX3_readNot cX3_readNot 2 none :: gw_t)) := gw_wsV ml_X3_71 (gw_mem 503 (by decide +kernel) (by decide +kernel)) (gw_mem 9 (by decide +kernel) (by decide +kernel)) (gw_mem 67 (by decide +kernel) (by decide +kernel)) cw_X3_readNot
theorem ml_X3_38 : Cond.methodLink RX3 38 yX3_readLevel ∈ gw_t := gw_mem 486 (by decide +kernel) (by decide +kernel)
theorem gd_X3_38 : GoodIn gw_t (wsV RX3 38 RX3 yX3_readLevel (.code yX3_readLevel cX3_readLevel 6 none :: gw_t)) := gw_wsV ml_X3_38 (gw_mem 488 (by decide +kernel) (by decide +kernel)) (gw_mem 6 (by decide +kernel) (by decide +kernel)) (gw_mem 67 (by decide +kernel) (by decide +kernel)) cw_X3_readLevel
theorem ml_X3_74 : Cond.methodLink RX3 74 yX3_joins ∈ gw_t := gw_mem 505 (by decide +kernel) (by decide +kernel)
theorem gd_X3_74 : GoodIn gw_t (wsV RX3 74 RX3 yX3_joins (.code yX3_joins cX3_joins 2 (some .boolean) :: gw_t)) := gw_wsV ml_X3_74 (gw_mem 507 (by decide +kernel) (by decide +kernel)) (gw_mem 10 (by decide +kernel) (by decide +kernel)) (gw_mem 67 (by decide +kernel) (by decide +kernel)) cw_X3_joins
theorem ml_X3_78 : Cond.methodLink RX3 78 yX3_emit ∈ gw_t := gw_mem 494 (by decide +kernel) (by decide +kernel)
theorem gd_X3_78 : GoodIn gw_t (wsV RX3 78 RX3 yX3_emit (.code yX3_emit cX3_emit 2 none :: gw_t)) := gw_wsV ml_X3_78 (gw_mem 496 (by decide +kernel) (by decide +kernel)) (gw_mem 8 (by decide +kernel) (by decide +kernel)) (gw_mem 67 (by decide +kernel) (by decide +kernel)) cw_X3_emit
theorem ml_X3_93 : Cond.methodLink RX3 93 yX3_isDigit ∈ gw_t := gw_mem 411 (by decide +kernel) (by decide +kernel)
theorem gd_X3_93 : GoodIn gw_t (va_wsS RX3 93 yX3_isDigit (.code yX3_isDigit cX3_isDigit 1 (some .boolean) :: gw_t)) := gw_wsS ml_X3_93 (gw_mem 412 (by decide +kernel) (by decide +kernel)) (gw_mem 67 (by decide +kernel) (by decide +kernel)) cw_X3_isDigit
theorem ml_X3_84 : Cond.methodLink RX3 84 yX3_isName ∈ gw_t := gw_mem 498 (by decide +kernel) (by decide +kernel)
theorem gd_X3_84 : GoodIn gw_t (va_wsS RX3 84 yX3_isName (.code yX3_isName cX3_isName 1 (some .boolean) :: gw_t)) := gw_wsS ml_X3_84 (gw_mem 499 (by decide +kernel) (by decide +kernel)) (gw_mem 67 (by decide +kernel) (by decide +kernel)) cw_X3_isName
theorem ml_X3_34 : Cond.methodLink RX3 34 yX3_pass ∈ gw_t := gw_mem 478 (by decide +kernel) (by decide +kernel)
theorem gd_X3_34 : GoodIn gw_t (wsV RX3 34 RX3 yX3_pass (.code yX3_pass cX3_pass 2 none :: gw_t)) := gw_wsV ml_X3_34 (gw_mem 480 (by decide +kernel) (by decide +kernel)) (gw_mem 4 (by decide +kernel) (by decide +kernel)) (gw_mem 67 (by decide +kernel) (by decide +kernel)) cw_X3_pass
theorem ml_X3_87 : Cond.methodLink RX3 87 yX3_isLetter ∈ gw_t := gw_mem 386 (by decide +kernel) (by decide +kernel)
theorem gd_X3_87 : GoodIn gw_t (va_wsS RX3 87 yX3_isLetter (.code yX3_isLetter cX3_isLetter 1 (some .boolean) :: gw_t)) := gw_wsS ml_X3_87 (gw_mem 387 (by decide +kernel) (by decide +kernel)) (gw_mem 67 (by decide +kernel) (by decide +kernel)) cw_X3_isLetter
theorem ml_X3_90 : Cond.methodLink RX3 90 yX3_readWord ∈ gw_t := gw_mem 389 (by decide +kernel) (by decide +kernel)
theorem gd_X3_90 : GoodIn gw_t (wsV RX3 90 RX3 yX3_readWord (.code yX3_readWord cX3_readWord 1 none :: gw_t)) := gw_wsV ml_X3_90 (gw_mem 391 (by decide +kernel) (by decide +kernel)) (gw_mem 1 (by decide +kernel) (by decide +kernel)) (gw_mem 67 (by decide +kernel) (by decide +kernel)) cw_X3_readWord
theorem ml_X3_96 : Cond.methodLink RX3 96 yX3_readNumber ∈ gw_t := gw_mem 414 (by decide +kernel) (by decide +kernel)
theorem gd_X3_96 : GoodIn gw_t (wsV RX3 96 RX3 yX3_readNumber (.code yX3_readNumber cX3_readNumber 1 none :: gw_t)) := gw_wsV ml_X3_96 (gw_mem 416 (by decide +kernel) (by decide +kernel)) (gw_mem 3 (by decide +kernel) (by decide +kernel)) (gw_mem 67 (by decide +kernel) (by decide +kernel)) cw_X3_readNumber
theorem ml_X3_101 : Cond.methodLink RX3 101 yJ0_indexOf_0f7a4 ∈ gw_t := gw_mem 419 (by decide +kernel) (by decide +kernel)
theorem gd_X3_101 : GoodIn gw_t (wsV RX3 101 RJ0 yJ0_indexOf_0f7a4 (.code yJ0_indexOf_0f7a4 cJ0_indexOf_0f7a4 2 (some .int) :: gw_t)) := gw_wsV ml_X3_101 (gw_mem 420 (by decide +kernel) (by decide +kernel)) (gw_mem 421 (by decide +kernel) (by decide +kernel)) (gw_mem 70 (by decide +kernel) (by decide +kernel)) cw_J0_indexOf_0f7a4
theorem ml_X3_109 : Cond.methodLink RX3 109 yX3_spells ∈ gw_t := gw_mem 394 (by decide +kernel) (by decide +kernel)
theorem gd_X3_109 : GoodIn gw_t (wsV RX3 109 RX3 yX3_spells (.code yX3_spells cX3_spells 3 (some .boolean) :: gw_t)) := gw_wsV ml_X3_109 (gw_mem 396 (by decide +kernel) (by decide +kernel)) (gw_mem 2 (by decide +kernel) (by decide +kernel)) (gw_mem 67 (by decide +kernel) (by decide +kernel)) cw_X3_spells
theorem ml_X3_135 : Cond.methodLink RX3 135 yJ0_length_8abf5 ∈ gw_t := gw_mem 398 (by decide +kernel) (by decide +kernel)
theorem gd_X3_135 : GoodIn gw_t (wsV RX3 135 RJ0 yJ0_length_8abf5 (.code yJ0_length_8abf5 cJ0_length_8abf5 1 (some .int) :: gw_t)) := gw_wsV ml_X3_135 (gw_mem 327 (by decide +kernel) (by decide +kernel)) (gw_mem 328 (by decide +kernel) (by decide +kernel)) (gw_mem 70 (by decide +kernel) (by decide +kernel)) cw_J0_length_8abf5
theorem ml_X3_139 : Cond.methodLink RX3 139 yJ0_charAt_5068e ∈ gw_t := gw_mem 399 (by decide +kernel) (by decide +kernel)
theorem gd_X3_139 : GoodIn gw_t (wsV RX3 139 RJ0 yJ0_charAt_5068e (.code yJ0_charAt_5068e cJ0_charAt_5068e 2 (some .char) :: gw_t)) := gw_wsV ml_X3_139 (gw_mem 337 (by decide +kernel) (by decide +kernel)) (gw_mem 338 (by decide +kernel) (by decide +kernel)) (gw_mem 70 (by decide +kernel) (by decide +kernel)) cw_J0_charAt_5068e
theorem ml_X4_68 : Cond.methodLink RX4 68 yX0_wasCalled ∈ gw_t := gw_mem 762 (by decide +kernel) (by decide +kernel)
theorem gd_X4_68 : GoodIn gw_t (wsV RX4 68 RX0 yX0_wasCalled (.code yX0_wasCalled cX0_wasCalled 2 (some .boolean) :: gw_t)) := gw_wsV ml_X4_68 (gw_mem 691 (by decide +kernel) (by decide +kernel)) (gw_mem 692 (by decide +kernel) (by decide +kernel)) (gw_mem 68 (by decide +kernel) (by decide +kernel)) cw_X0_wasCalled
theorem ml_X4_72 : Cond.methodLink RX4 72 yX0_goOnFrom ∈ gw_t := gw_mem 763 (by decide +kernel) (by decide +kernel)
theorem gd_X4_72 : GoodIn gw_t (wsV RX4 72 RX0 yX0_goOnFrom (.code yX0_goOnFrom cX0_goOnFrom 2 none :: gw_t)) := gw_wsV ml_X4_72 (gw_mem 764 (by decide +kernel) (by decide +kernel)) (gw_mem 765 (by decide +kernel) (by decide +kernel)) (gw_mem 68 (by decide +kernel) (by decide +kernel)) cw_X0_goOnFrom
theorem ml_X4_76 : Cond.methodLink RX4 76 yX0_callSlip ∈ gw_t := gw_mem 768 (by decide +kernel) (by decide +kernel)
theorem gd_X4_76 : GoodIn gw_t (wsV RX4 76 RX0 yX0_callSlip (.code yX0_callSlip cX0_callSlip 5 none :: gw_t)) := gw_wsV ml_X4_76 (gw_mem 686 (by decide +kernel) (by decide +kernel)) (gw_mem 687 (by decide +kernel) (by decide +kernel)) (gw_mem 68 (by decide +kernel) (by decide +kernel)) cw_X0_callSlip
theorem ml_X4_50 : Cond.methodLink RX4 50 yX4_note ∈ gw_t := gw_mem 754 (by decide +kernel) (by decide +kernel)
theorem gd_X4_50 : GoodIn gw_t (wsV RX4 50 RX4 yX4_note (.code yX4_note cX4_note 4 none :: gw_t)) := gw_wsV ml_X4_50 (gw_mem 756 (by decide +kernel) (by decide +kernel)) (gw_mem 16 (by decide +kernel) (by decide +kernel)) (gw_mem 69 (by decide +kernel) (by decide +kernel)) cw_X4_note
theorem ml_X4_80 : Cond.methodLink RX4 80 yX4_losesFewer ∈ gw_t := gw_mem 769 (by decide +kernel) (by decide +kernel)
theorem gd_X4_80 : GoodIn gw_t (wsV RX4 80 RX4 yX4_losesFewer (.code yX4_losesFewer cX4_losesFewer 2 (some .boolean) :: gw_t)) := gw_wsV ml_X4_80 (gw_mem 771 (by decide +kernel) (by decide +kernel)) (gw_mem 18 (by decide +kernel) (by decide +kernel)) (gw_mem 69 (by decide +kernel) (by decide +kernel)) cw_X4_losesFewer
theorem ml_X4_54 : Cond.methodLink RX4 54 yX4_goOn ∈ gw_t := gw_mem 758 (by decide +kernel) (by decide +kernel)
theorem gd_X4_54 : GoodIn gw_t (wsV RX4 54 RX4 yX4_goOn (.code yX4_goOn cX4_goOn 6 none :: gw_t)) := gw_wsV ml_X4_54 (gw_mem 760 (by decide +kernel) (by decide +kernel)) (gw_mem 17 (by decide +kernel) (by decide +kernel)) (gw_mem 69 (by decide +kernel) (by decide +kernel)) cw_X4_goOn
theorem ml_X4_46 : Cond.methodLink RX4 46 yX0_begin ∈ gw_t := gw_mem 753 (by decide +kernel) (by decide +kernel)
theorem gd_X4_46 : GoodIn gw_t (wsV RX4 46 RX0 yX0_begin (.code yX0_begin cX0_begin 2 none :: gw_t)) := gw_wsV ml_X4_46 (gw_mem 674 (by decide +kernel) (by decide +kernel)) (gw_mem 675 (by decide +kernel) (by decide +kernel)) (gw_mem 68 (by decide +kernel) (by decide +kernel)) cw_X0_begin
theorem ml_X5_22 : Cond.methodLink RX5 22 yJ7_fill_53178 ∈ gw_t := gw_mem 890 (by decide +kernel) (by decide +kernel)
theorem gd_X5_22 : GoodIn gw_t (va_wsS RX5 22 yJ7_fill_53178 (.code yJ7_fill_53178 cJ7_fill_53178 4 none :: gw_t)) := gw_wsS ml_X5_22 (gw_mem 678 (by decide +kernel) (by decide +kernel)) (gw_mem 77 (by decide +kernel) (by decide +kernel)) cw_J7_fill_53178
theorem ml_X7_25 : Cond.methodLink RX7 25 yX7_joined ∈ gw_t := gw_mem 719 (by decide +kernel) (by decide +kernel)
theorem gd_X7_25 : GoodIn gw_t (va_wsS RX7 25 yX7_joined (.code yX7_joined cX7_joined 3 (some .int) :: gw_t)) := gw_wsS ml_X7_25 (gw_mem 720 (by decide +kernel) (by decide +kernel)) (gw_mem 76 (by decide +kernel) (by decide +kernel)) cw_X7_joined
theorem ml_X8_199 : Cond.methodLink RX8 199 yX1_become ∈ gw_t := gw_mem 862 (by decide +kernel) (by decide +kernel)
theorem gd_X8_199 : GoodIn gw_t (wsV RX8 199 RX1 yX1_become (.code yX1_become cX1_become 3 none :: gw_t)) := gw_wsV ml_X8_199 (gw_mem 863 (by decide +kernel) (by decide +kernel)) (gw_mem 864 (by decide +kernel) (by decide +kernel)) (gw_mem 64 (by decide +kernel) (by decide +kernel)) cw_X1_become
theorem ml_X8_134 : Cond.methodLink RX8 134 yX8_rule ∈ gw_t := gw_mem 669 (by decide +kernel) (by decide +kernel)
theorem gd_X8_134 : GoodIn gw_t (wsV RX8 134 RX8 yX8_rule (.code yX8_rule cX8_rule 1 (some (.object "WhoSingsNext$Text")) :: gw_t)) := gw_wsV ml_X8_134 (gw_mem 671 (by decide +kernel) (by decide +kernel)) (gw_mem 11 (by decide +kernel) (by decide +kernel)) (gw_mem 63 (by decide +kernel) (by decide +kernel)) cw_X8_rule
theorem ml_X8_152 : Cond.methodLink RX8 152 yX8_runDesk ∈ gw_t := gw_mem 781 (by decide +kernel) (by decide +kernel)
theorem gd_X8_152 : GoodIn gw_t (wsV RX8 152 RX8 yX8_runDesk (.code yX8_runDesk cX8_runDesk 3 none :: gw_t)) := gw_wsV ml_X8_152 (gw_mem 783 (by decide +kernel) (by decide +kernel)) (gw_mem 19 (by decide +kernel) (by decide +kernel)) (gw_mem 63 (by decide +kernel) (by decide +kernel)) cw_X8_runDesk
theorem ml_X8_147 : Cond.methodLink RX8 147 yX4_look ∈ gw_t := gw_mem 749 (by decide +kernel) (by decide +kernel)
theorem gd_X8_147 : GoodIn gw_t (wsV RX8 147 RX4 yX4_look (.code yX4_look cX4_look 2 none :: gw_t)) := gw_wsV ml_X8_147 (gw_mem 750 (by decide +kernel) (by decide +kernel)) (gw_mem 751 (by decide +kernel) (by decide +kernel)) (gw_mem 69 (by decide +kernel) (by decide +kernel)) cw_X4_look
theorem ml_X8_150 : Cond.methodLink RX8 150 yX4_answer ∈ gw_t := gw_mem 773 (by decide +kernel) (by decide +kernel)
theorem gd_X8_150 : GoodIn gw_t (wsV RX8 150 RX4 yX4_answer (.code yX4_answer cX4_answer 3 (some .int) :: gw_t)) := gw_wsV ml_X8_150 (gw_mem 774 (by decide +kernel) (by decide +kernel)) (gw_mem 775 (by decide +kernel) (by decide +kernel)) (gw_mem 69 (by decide +kernel) (by decide +kernel)) cw_X4_answer
theorem ml_X8_178 : Cond.methodLink RX8 178 yX8_isSheet ∈ gw_t := gw_mem 822 (by decide +kernel) (by decide +kernel)
theorem gd_X8_178 : GoodIn gw_t (va_wsS RX8 178 yX8_isSheet (.code yX8_isSheet cX8_isSheet 1 (some .boolean) :: gw_t)) := gw_wsS ml_X8_178 (gw_mem 823 (by decide +kernel) (by decide +kernel)) (gw_mem 63 (by decide +kernel) (by decide +kernel)) cw_X8_isSheet
theorem ml_X8_217 : Cond.methodLink RX8 217 yX5_holds ∈ gw_t := gw_mem 895 (by decide +kernel) (by decide +kernel)
theorem gd_X8_217 : GoodIn gw_t (wsV RX8 217 RX5 yX5_holds (.code yX5_holds cX5_holds 3 (some .boolean) :: gw_t)) := gw_wsV ml_X8_217 (gw_mem 896 (by decide +kernel) (by decide +kernel)) (gw_mem 897 (by decide +kernel) (by decide +kernel)) (gw_mem 79 (by decide +kernel) (by decide +kernel)) cw_X5_holds
theorem ml_X8_220 : Cond.methodLink RX8 220 yX5_put ∈ gw_t := gw_mem 899 (by decide +kernel) (by decide +kernel)
theorem gd_X8_220 : GoodIn gw_t (wsV RX8 220 RX5 yX5_put (.code yX5_put cX5_put 3 none :: gw_t)) := gw_wsV ml_X8_220 (gw_mem 900 (by decide +kernel) (by decide +kernel)) (gw_mem 901 (by decide +kernel) (by decide +kernel)) (gw_mem 79 (by decide +kernel) (by decide +kernel)) cw_X5_put
theorem ml_X8_136 : Cond.methodLink RX8 136 yX0_begin ∈ gw_t := gw_mem 673 (by decide +kernel) (by decide +kernel)
theorem gd_X8_136 : GoodIn gw_t (wsV RX8 136 RX0 yX0_begin (.code yX0_begin cX0_begin 2 none :: gw_t)) := gw_wsV ml_X8_136 (gw_mem 674 (by decide +kernel) (by decide +kernel)) (gw_mem 675 (by decide +kernel) (by decide +kernel)) (gw_mem 68 (by decide +kernel) (by decide +kernel)) cw_X0_begin
theorem ml_X8_191 : Cond.methodLink RX8 191 yX0_callByChance ∈ gw_t := gw_mem 841 (by decide +kernel) (by decide +kernel)
theorem gd_X8_191 : GoodIn gw_t (wsV RX8 191 RX0 yX0_callByChance (.code yX0_callByChance cX0_callByChance 4 none :: gw_t)) := gw_wsV ml_X8_191 (gw_mem 842 (by decide +kernel) (by decide +kernel)) (gw_mem 843 (by decide +kernel) (by decide +kernel)) (gw_mem 68 (by decide +kernel) (by decide +kernel)) cw_X0_callByChance
theorem ml_X8_196 : Cond.methodLink RX8 196 yX8_commonDivisor ∈ gw_t := gw_mem 855 (by decide +kernel) (by decide +kernel)
theorem gd_X8_196 : GoodIn gw_t (va_wsS RX8 196 yX8_commonDivisor (.code yX8_commonDivisor cX8_commonDivisor 3 (some .int) :: gw_t)) := gw_wsS ml_X8_196 (gw_mem 856 (by decide +kernel) (by decide +kernel)) (gw_mem 63 (by decide +kernel) (by decide +kernel)) cw_X8_commonDivisor
theorem ml_X8_106 : Cond.methodLink RX8 106 yX1_hasSlip ∈ gw_t := gw_mem 644 (by decide +kernel) (by decide +kernel)
theorem gd_X8_106 : GoodIn gw_t (wsV RX8 106 RX1 yX1_hasSlip (.code yX1_hasSlip cX1_hasSlip 2 (some .boolean) :: gw_t)) := gw_wsV ml_X8_106 (gw_mem 626 (by decide +kernel) (by decide +kernel)) (gw_mem 627 (by decide +kernel) (by decide +kernel)) (gw_mem 64 (by decide +kernel) (by decide +kernel)) cw_X1_hasSlip
theorem ml_X8_169 : Cond.methodLink RX8 169 yX0_callSlip ∈ gw_t := gw_mem 813 (by decide +kernel) (by decide +kernel)
theorem gd_X8_169 : GoodIn gw_t (wsV RX8 169 RX0 yX0_callSlip (.code yX0_callSlip cX0_callSlip 5 none :: gw_t)) := gw_wsV ml_X8_169 (gw_mem 686 (by decide +kernel) (by decide +kernel)) (gw_mem 687 (by decide +kernel) (by decide +kernel)) (gw_mem 68 (by decide +kernel) (by decide +kernel)) cw_X0_callSlip
theorem ml_X8_172 : Cond.methodLink RX8 172 yX0_callByDesk ∈ gw_t := gw_mem 789 (by decide +kernel) (by decide +kernel)
theorem gd_X8_172 : GoodIn gw_t (wsV RX8 172 RX0 yX0_callByDesk (.code yX0_callByDesk cX0_callByDesk 2 none :: gw_t)) := gw_wsV ml_X8_172 (gw_mem 790 (by decide +kernel) (by decide +kernel)) (gw_mem 791 (by decide +kernel) (by decide +kernel)) (gw_mem 68 (by decide +kernel) (by decide +kernel)) cw_X0_callByDesk
theorem ml_X8_83 : Cond.methodLink RX8 83 yX1_allows ∈ gw_t := gw_mem 597 (by decide +kernel) (by decide +kernel)
theorem gd_X8_83 : GoodIn gw_t (wsV RX8 83 RX1 yX1_allows (.code yX1_allows cX1_allows 3 (some .boolean) :: gw_t)) := gw_wsV ml_X8_83 (gw_mem 598 (by decide +kernel) (by decide +kernel)) (gw_mem 599 (by decide +kernel) (by decide +kernel)) (gw_mem 64 (by decide +kernel) (by decide +kernel)) cw_X1_allows
theorem ml_X8_87 : Cond.methodLink RX8 87 yX1_addPerson ∈ gw_t := gw_mem 605 (by decide +kernel) (by decide +kernel)
theorem gd_X8_87 : GoodIn gw_t (wsV RX8 87 RX1 yX1_addPerson (.code yX1_addPerson cX1_addPerson 3 (some .int) :: gw_t)) := gw_wsV ml_X8_87 (gw_mem 606 (by decide +kernel) (by decide +kernel)) (gw_mem 607 (by decide +kernel) (by decide +kernel)) (gw_mem 64 (by decide +kernel) (by decide +kernel)) cw_X1_addPerson
theorem ml_X8_143 : Cond.methodLink RX8 143 yX0_answer ∈ gw_t := gw_mem 737 (by decide +kernel) (by decide +kernel)
theorem gd_X8_143 : GoodIn gw_t (wsV RX8 143 RX0 yX0_answer (.code yX0_answer cX0_answer 2 (some .int) :: gw_t)) := gw_wsV ml_X8_143 (gw_mem 738 (by decide +kernel) (by decide +kernel)) (gw_mem 739 (by decide +kernel) (by decide +kernel)) (gw_mem 68 (by decide +kernel) (by decide +kernel)) cw_X0_answer
theorem ml_X8_131 : Cond.methodLink RX8 131 yX1_isRow ∈ gw_t := gw_mem 665 (by decide +kernel) (by decide +kernel)
theorem gd_X8_131 : GoodIn gw_t (wsV RX8 131 RX1 yX1_isRow (.code yX1_isRow cX1_isRow 5 (some .boolean) :: gw_t)) := gw_wsV ml_X8_131 (gw_mem 666 (by decide +kernel) (by decide +kernel)) (gw_mem 667 (by decide +kernel) (by decide +kernel)) (gw_mem 64 (by decide +kernel) (by decide +kernel)) cw_X1_isRow
theorem ml_X8_140 : Cond.methodLink RX8 140 yX0_callRow ∈ gw_t := gw_mem 680 (by decide +kernel) (by decide +kernel)
theorem gd_X8_140 : GoodIn gw_t (wsV RX8 140 RX0 yX0_callRow (.code yX0_callRow cX0_callRow 3 none :: gw_t)) := gw_wsV ml_X8_140 (gw_mem 681 (by decide +kernel) (by decide +kernel)) (gw_mem 682 (by decide +kernel) (by decide +kernel)) (gw_mem 68 (by decide +kernel) (by decide +kernel)) cw_X0_callRow
theorem ml_X8_66 : Cond.methodLink RX8 66 yX3_add ∈ gw_t := gw_mem 374 (by decide +kernel) (by decide +kernel)
theorem gd_X8_66 : GoodIn gw_t (wsV RX8 66 RX3 yX3_add (.code yX3_add cX3_add 2 (some .boolean) :: gw_t)) := gw_wsV ml_X8_66 (gw_mem 375 (by decide +kernel) (by decide +kernel)) (gw_mem 376 (by decide +kernel) (by decide +kernel)) (gw_mem 67 (by decide +kernel) (by decide +kernel)) cw_X3_add
theorem ml_X8_127 : Cond.methodLink RX8 127 yX1_follow ∈ gw_t := gw_mem 657 (by decide +kernel) (by decide +kernel)
theorem gd_X8_127 : GoodIn gw_t (wsV RX8 127 RX1 yX1_follow (.code yX1_follow cX1_follow 2 none :: gw_t)) := gw_wsV ml_X8_127 (gw_mem 658 (by decide +kernel) (by decide +kernel)) (gw_mem 659 (by decide +kernel) (by decide +kernel)) (gw_mem 64 (by decide +kernel) (by decide +kernel)) cw_X1_follow
theorem ml_X8_102 : Cond.methodLink RX8 102 yX1_change ∈ gw_t := gw_mem 635 (by decide +kernel) (by decide +kernel)
theorem gd_X8_102 : GoodIn gw_t (wsV RX8 102 RX1 yX1_change (.code yX1_change cX1_change 4 none :: gw_t)) := gw_wsV ml_X8_102 (gw_mem 636 (by decide +kernel) (by decide +kernel)) (gw_mem 637 (by decide +kernel) (by decide +kernel)) (gw_mem 64 (by decide +kernel) (by decide +kernel)) cw_X1_change
theorem ml_X8_56 : Cond.methodLink RX8 56 yJ0_length_8abf5 ∈ gw_t := gw_mem 326 (by decide +kernel) (by decide +kernel)
theorem gd_X8_56 : GoodIn gw_t (wsV RX8 56 RJ0 yJ0_length_8abf5 (.code yJ0_length_8abf5 cJ0_length_8abf5 1 (some .int) :: gw_t)) := gw_wsV ml_X8_56 (gw_mem 327 (by decide +kernel) (by decide +kernel)) (gw_mem 328 (by decide +kernel) (by decide +kernel)) (gw_mem 70 (by decide +kernel) (by decide +kernel)) cw_J0_length_8abf5
theorem ml_X8_62 : Cond.methodLink RX8 62 yJ0_charAt_5068e ∈ gw_t := gw_mem 336 (by decide +kernel) (by decide +kernel)
theorem gd_X8_62 : GoodIn gw_t (wsV RX8 62 RJ0 yJ0_charAt_5068e (.code yJ0_charAt_5068e cJ0_charAt_5068e 2 (some .char) :: gw_t)) := gw_wsV ml_X8_62 (gw_mem 337 (by decide +kernel) (by decide +kernel)) (gw_mem 338 (by decide +kernel) (by decide +kernel)) (gw_mem 70 (by decide +kernel) (by decide +kernel)) cw_J0_charAt_5068e
theorem ml_X8_70 : Cond.methodLink RX8 70 yX3_readTape ∈ gw_t := gw_mem 378 (by decide +kernel) (by decide +kernel)
theorem gd_X8_70 : GoodIn gw_t (wsV RX8 70 RX3 yX3_readTape (.code yX3_readTape cX3_readTape 1 (some .boolean) :: gw_t)) := gw_wsV ml_X8_70 (gw_mem 379 (by decide +kernel) (by decide +kernel)) (gw_mem 380 (by decide +kernel) (by decide +kernel)) (gw_mem 67 (by decide +kernel) (by decide +kernel)) cw_X3_readTape
theorem ml_X8_74 : Cond.methodLink RX8 74 yX3_made ∈ gw_t := gw_mem 509 (by decide +kernel) (by decide +kernel)
theorem gd_X8_74 : GoodIn gw_t (wsV RX8 74 RX3 yX3_made (.code yX3_made cX3_made 1 (some (.object "WhoSingsNext$Text")) :: gw_t)) := gw_wsV ml_X8_74 (gw_mem 510 (by decide +kernel) (by decide +kernel)) (gw_mem 511 (by decide +kernel) (by decide +kernel)) (gw_mem 67 (by decide +kernel) (by decide +kernel)) cw_X3_made
theorem ml_X8_184 : Cond.methodLink RX8 184 yX8_judged ∈ gw_t := gw_mem 825 (by decide +kernel) (by decide +kernel)
theorem gd_X8_184 : GoodIn gw_t (wsV RX8 184 RX8 yX8_judged (.code yX8_judged cX8_judged 4 (some .int) :: gw_t)) := gw_wsV ml_X8_184 (gw_mem 827 (by decide +kernel) (by decide +kernel)) (gw_mem 21 (by decide +kernel) (by decide +kernel)) (gw_mem 63 (by decide +kernel) (by decide +kernel)) cw_X8_judged
theorem ml_X8_238 : Cond.methodLink RX8 238 yX0_leaveOut ∈ gw_t := gw_mem 785 (by decide +kernel) (by decide +kernel)
theorem gd_X8_238 : GoodIn gw_t (wsV RX8 238 RX0 yX0_leaveOut (.code yX0_leaveOut cX0_leaveOut 2 none :: gw_t)) := gw_wsV ml_X8_238 (gw_mem 786 (by decide +kernel) (by decide +kernel)) (gw_mem 787 (by decide +kernel) (by decide +kernel)) (gw_mem 68 (by decide +kernel) (by decide +kernel)) cw_X0_leaveOut
theorem ml_X8_95 : Cond.methodLink RX8 95 yX1_hasValue ∈ gw_t := gw_mem 621 (by decide +kernel) (by decide +kernel)
theorem gd_X8_95 : GoodIn gw_t (wsV RX8 95 RX1 yX1_hasValue (.code yX1_hasValue cX1_hasValue 3 (some .boolean) :: gw_t)) := gw_wsV ml_X8_95 (gw_mem 622 (by decide +kernel) (by decide +kernel)) (gw_mem 623 (by decide +kernel) (by decide +kernel)) (gw_mem 64 (by decide +kernel) (by decide +kernel)) cw_X1_hasValue
theorem ml_X8_99 : Cond.methodLink RX8 99 yX1_valueOf ∈ gw_t := gw_mem 630 (by decide +kernel) (by decide +kernel)
theorem gd_X8_99 : GoodIn gw_t (wsV RX8 99 RX1 yX1_valueOf (.code yX1_valueOf cX1_valueOf 3 (some .int) :: gw_t)) := gw_wsV ml_X8_99 (gw_mem 631 (by decide +kernel) (by decide +kernel)) (gw_mem 632 (by decide +kernel) (by decide +kernel)) (gw_mem 64 (by decide +kernel) (by decide +kernel)) cw_X1_valueOf
theorem ml_X8_213 : Cond.methodLink RX8 213 yX5_remake ∈ gw_t := gw_mem 886 (by decide +kernel) (by decide +kernel)
theorem gd_X8_213 : GoodIn gw_t (wsV RX8 213 RX5 yX5_remake (.code yX5_remake cX5_remake 3 none :: gw_t)) := gw_wsV ml_X8_213 (gw_mem 887 (by decide +kernel) (by decide +kernel)) (gw_mem 888 (by decide +kernel) (by decide +kernel)) (gw_mem 79 (by decide +kernel) (by decide +kernel)) cw_X5_remake
theorem ml_X8_91 : Cond.methodLink RX8 91 yX1_addSlip ∈ gw_t := gw_mem 613 (by decide +kernel) (by decide +kernel)
theorem gd_X8_91 : GoodIn gw_t (wsV RX8 91 RX1 yX1_addSlip (.code yX1_addSlip cX1_addSlip 5 (some .int) :: gw_t)) := gw_wsV ml_X8_91 (gw_mem 614 (by decide +kernel) (by decide +kernel)) (gw_mem 615 (by decide +kernel) (by decide +kernel)) (gw_mem 64 (by decide +kernel) (by decide +kernel)) cw_X1_addSlip
theorem ml_X8_232 : Cond.methodLink RX8 232 yX6_isOf ∈ gw_t := gw_mem 916 (by decide +kernel) (by decide +kernel)
theorem gd_X8_232 : GoodIn gw_t (wsV RX8 232 RX6 yX6_isOf (.code yX6_isOf cX6_isOf 2 (some .boolean) :: gw_t)) := gw_wsV ml_X8_232 (gw_mem 917 (by decide +kernel) (by decide +kernel)) (gw_mem 918 (by decide +kernel) (by decide +kernel)) (gw_mem 66 (by decide +kernel) (by decide +kernel)) cw_X6_isOf
theorem ml_X8_250 : Cond.methodLink RX8 250 yJ9_min_7cf53 ∈ gw_t := gw_mem 709 (by decide +kernel) (by decide +kernel)
theorem gd_X8_250 : GoodIn gw_t (va_wsS RX8 250 yJ9_min_7cf53 (.code yJ9_min_7cf53 cJ9_min_7cf53 2 (some .int) :: gw_t)) := gw_wsS ml_X8_250 (gw_mem 438 (by decide +kernel) (by decide +kernel)) (gw_mem 74 (by decide +kernel) (by decide +kernel)) cw_J9_min_7cf53
theorem ml_X8_255 : Cond.methodLink RX8 255 yJ9_max_7cf53 ∈ gw_t := gw_mem 710 (by decide +kernel) (by decide +kernel)
theorem gd_X8_255 : GoodIn gw_t (va_wsS RX8 255 yJ9_max_7cf53 (.code yJ9_max_7cf53 cJ9_max_7cf53 2 (some .int) :: gw_t)) := gw_wsS ml_X8_255 (gw_mem 435 (by decide +kernel) (by decide +kernel)) (gw_mem 74 (by decide +kernel) (by decide +kernel)) cw_J9_max_7cf53
theorem ml_X9_225 : Cond.methodLink RX9 225 yX9_term ∈ gw_t := gw_mem 1212 (by decide +kernel) (by decide +kernel)
theorem gd_X9_225 : GoodIn gw_t (wsV RX9 225 RX9 yX9_term (.code yX9_term cX9_term 2 (some .int) :: gw_t)) := gw_wsV ml_X9_225 (gw_mem 1214 (by decide +kernel) (by decide +kernel)) (gw_mem 38 (by decide +kernel) (by decide +kernel)) (gw_mem 80 (by decide +kernel) (by decide +kernel)) cw_X9_term
theorem ml_X9_208 : Cond.methodLink RX9 208 yX9_isSign ∈ gw_t := gw_mem 1220 (by decide +kernel) (by decide +kernel)
theorem gd_X9_208 : GoodIn gw_t (wsV RX9 208 RX9 yX9_isSign (.code yX9_isSign cX9_isSign 2 (some .boolean) :: gw_t)) := gw_wsV ml_X9_208 (gw_mem 1222 (by decide +kernel) (by decide +kernel)) (gw_mem 40 (by decide +kernel) (by decide +kernel)) (gw_mem 80 (by decide +kernel) (by decide +kernel)) cw_X9_isSign
theorem ml_X9_183 : Cond.methodLink RX9 183 yX9_next ∈ gw_t := gw_mem 1164 (by decide +kernel) (by decide +kernel)
theorem gd_X9_183 : GoodIn gw_t (wsV RX9 183 RX9 yX9_next (.code yX9_next cX9_next 3 none :: gw_t)) := gw_wsV ml_X9_183 (gw_mem 1166 (by decide +kernel) (by decide +kernel)) (gw_mem 27 (by decide +kernel) (by decide +kernel)) (gw_mem 80 (by decide +kernel) (by decide +kernel)) cw_X9_next
theorem ml_X9_211 : Cond.methodLink RX9 211 yX9_opens ∈ gw_t := gw_mem 1204 (by decide +kernel) (by decide +kernel)
theorem gd_X9_211 : GoodIn gw_t (wsV RX9 211 RX9 yX9_opens (.code yX9_opens cX9_opens 1 (some .boolean) :: gw_t)) := gw_wsV ml_X9_211 (gw_mem 1206 (by decide +kernel) (by decide +kernel)) (gw_mem 36 (by decide +kernel) (by decide +kernel)) (gw_mem 80 (by decide +kernel) (by decide +kernel)) cw_X9_opens
theorem ml_X9_215 : Cond.methodLink RX9 215 yX9_atom ∈ gw_t := gw_mem 1216 (by decide +kernel) (by decide +kernel)
theorem gd_X9_215 : GoodIn gw_t (wsV RX9 215 RX9 yX9_atom (.code yX9_atom cX9_atom 2 (some .int) :: gw_t)) := gw_wsV ml_X9_215 (gw_mem 1218 (by decide +kernel) (by decide +kernel)) (gw_mem 39 (by decide +kernel) (by decide +kernel)) (gw_mem 80 (by decide +kernel) (by decide +kernel)) cw_X9_atom
theorem ml_X9_219 : Cond.methodLink RX9 219 yX9_either ∈ gw_t := gw_mem 1192 (by decide +kernel) (by decide +kernel)
theorem gd_X9_219 : GoodIn gw_t (wsV RX9 219 RX9 yX9_either (.code yX9_either cX9_either 3 (some .int) :: gw_t)) := gw_wsV ml_X9_219 (gw_mem 1194 (by decide +kernel) (by decide +kernel)) (gw_mem 33 (by decide +kernel) (by decide +kernel)) (gw_mem 80 (by decide +kernel) (by decide +kernel)) cw_X9_either
theorem ml_X9_180 : Cond.methodLink RX9 180 yX9_fail ∈ gw_t := gw_mem 1188 (by decide +kernel) (by decide +kernel)
theorem gd_X9_180 : GoodIn gw_t (wsV RX9 180 RX9 yX9_fail (.code yX9_fail cX9_fail 1 none :: gw_t)) := gw_wsV ml_X9_180 (gw_mem 1190 (by decide +kernel) (by decide +kernel)) (gw_mem 32 (by decide +kernel) (by decide +kernel)) (gw_mem 80 (by decide +kernel) (by decide +kernel)) cw_X9_fail
theorem ml_X9_222 : Cond.methodLink RX9 222 yX9_name ∈ gw_t := gw_mem 1224 (by decide +kernel) (by decide +kernel)
theorem gd_X9_222 : GoodIn gw_t (wsV RX9 222 RX9 yX9_name (.code yX9_name cX9_name 1 (some .int) :: gw_t)) := gw_wsV ml_X9_222 (gw_mem 1226 (by decide +kernel) (by decide +kernel)) (gw_mem 41 (by decide +kernel) (by decide +kernel)) (gw_mem 80 (by decide +kernel) (by decide +kernel)) cw_X9_name
theorem ml_X9_351 : Cond.methodLink RX9 351 yX9_desks ∈ gw_t := gw_mem 1316 (by decide +kernel) (by decide +kernel)
theorem gd_X9_351 : GoodIn gw_t (wsV RX9 351 RX9 yX9_desks (.code yX9_desks cX9_desks 2 none :: gw_t)) := gw_wsV ml_X9_351 (gw_mem 1318 (by decide +kernel) (by decide +kernel)) (gw_mem 56 (by decide +kernel) (by decide +kernel)) (gw_mem 80 (by decide +kernel) (by decide +kernel)) cw_X9_desks
theorem ml_X9_94 : Cond.methodLink RX9 94 yX9_in ∈ gw_t := gw_mem 1119 (by decide +kernel) (by decide +kernel)
theorem gd_X9_94 : GoodIn gw_t (va_wsS RX9 94 yX9_in (.code yX9_in cX9_in 6 (some .boolean) :: gw_t)) := gw_wsS ml_X9_94 (gw_mem 1120 (by decide +kernel) (by decide +kernel)) (gw_mem 80 (by decide +kernel) (by decide +kernel)) cw_X9_in
theorem ml_X9_296 : Cond.methodLink RX9 296 yX9_begins ∈ gw_t := gw_mem 1246 (by decide +kernel) (by decide +kernel)
theorem gd_X9_296 : GoodIn gw_t (wsV RX9 296 RX9 yX9_begins (.code yX9_begins cX9_begins 2 none :: gw_t)) := gw_wsV ml_X9_296 (gw_mem 1248 (by decide +kernel) (by decide +kernel)) (gw_mem 44 (by decide +kernel) (by decide +kernel)) (gw_mem 80 (by decide +kernel) (by decide +kernel)) cw_X9_begins
theorem ml_X9_333 : Cond.methodLink RX9 333 yX9_rows ∈ gw_t := gw_mem 1296 (by decide +kernel) (by decide +kernel)
theorem gd_X9_333 : GoodIn gw_t (wsV RX9 333 RX9 yX9_rows (.code yX9_rows cX9_rows 5 none :: gw_t)) := gw_wsV ml_X9_333 (gw_mem 1298 (by decide +kernel) (by decide +kernel)) (gw_mem 52 (by decide +kernel) (by decide +kernel)) (gw_mem 80 (by decide +kernel) (by decide +kernel)) cw_X9_rows
theorem ml_X9_230 : Cond.methodLink RX9 230 yX9_not ∈ gw_t := gw_mem 1200 (by decide +kernel) (by decide +kernel)
theorem gd_X9_230 : GoodIn gw_t (wsV RX9 230 RX9 yX9_not (.code yX9_not cX9_not 4 (some .int) :: gw_t)) := gw_wsV ml_X9_230 (gw_mem 1202 (by decide +kernel) (by decide +kernel)) (gw_mem 35 (by decide +kernel) (by decide +kernel)) (gw_mem 80 (by decide +kernel) (by decide +kernel)) cw_X9_not
theorem ml_X9_186 : Cond.methodLink RX9 186 yX9_isWord ∈ gw_t := gw_mem 1176 (by decide +kernel) (by decide +kernel)
theorem gd_X9_186 : GoodIn gw_t (wsV RX9 186 RX9 yX9_isWord (.code yX9_isWord cX9_isWord 9 (some .boolean) :: gw_t)) := gw_wsV ml_X9_186 (gw_mem 1178 (by decide +kernel) (by decide +kernel)) (gw_mem 29 (by decide +kernel) (by decide +kernel)) (gw_mem 80 (by decide +kernel) (by decide +kernel)) cw_X9_isWord
theorem ml_X9_277 : Cond.methodLink RX9 277 yX9_canSing ∈ gw_t := gw_mem 1257 (by decide +kernel) (by decide +kernel)
theorem gd_X9_277 : GoodIn gw_t (wsV RX9 277 RX9 yX9_canSing (.code yX9_canSing cX9_canSing 2 (some .boolean) :: gw_t)) := gw_wsV ml_X9_277 (gw_mem 1259 (by decide +kernel) (by decide +kernel)) (gw_mem 46 (by decide +kernel) (by decide +kernel)) (gw_mem 80 (by decide +kernel) (by decide +kernel)) cw_X9_canSing
theorem ml_X9_280 : Cond.methodLink RX9 280 yX9_moves ∈ gw_t := gw_mem 1261 (by decide +kernel) (by decide +kernel)
theorem gd_X9_280 : GoodIn gw_t (wsV RX9 280 RX9 yX9_moves (.code yX9_moves cX9_moves 6 (some .int) :: gw_t)) := gw_wsV ml_X9_280 (gw_mem 1263 (by decide +kernel) (by decide +kernel)) (gw_mem 47 (by decide +kernel) (by decide +kernel)) (gw_mem 80 (by decide +kernel) (by decide +kernel)) cw_X9_moves
theorem ml_X9_261 : Cond.methodLink RX9 261 yX9_within ∈ gw_t := gw_mem 1265 (by decide +kernel) (by decide +kernel)
theorem gd_X9_261 : GoodIn gw_t (va_wsS RX9 261 yX9_within (.code yX9_within cX9_within 3 (some .int) :: gw_t)) := gw_wsS ml_X9_261 (gw_mem 1266 (by decide +kernel) (by decide +kernel)) (gw_mem 80 (by decide +kernel) (by decide +kernel)) cw_X9_within
theorem ml_X9_283 : Cond.methodLink RX9 283 yX9_bitsOf ∈ gw_t := gw_mem 1268 (by decide +kernel) (by decide +kernel)
theorem gd_X9_283 : GoodIn gw_t (va_wsS RX9 283 yX9_bitsOf (.code yX9_bitsOf cX9_bitsOf 3 (some .int) :: gw_t)) := gw_wsS ml_X9_283 (gw_mem 1269 (by decide +kernel) (by decide +kernel)) (gw_mem 80 (by decide +kernel) (by decide +kernel)) cw_X9_bitsOf
theorem ml_X9_286 : Cond.methodLink RX9 286 yX9_thirst ∈ gw_t := gw_mem 1271 (by decide +kernel) (by decide +kernel)
theorem gd_X9_286 : GoodIn gw_t (wsV RX9 286 RX9 yX9_thirst (.code yX9_thirst cX9_thirst 5 (some .int) :: gw_t)) := gw_wsV ml_X9_286 (gw_mem 1273 (by decide +kernel) (by decide +kernel)) (gw_mem 48 (by decide +kernel) (by decide +kernel)) (gw_mem 80 (by decide +kernel) (by decide +kernel)) cw_X9_thirst
theorem ml_X9_289 : Cond.methodLink RX9 289 yX9_says ∈ gw_t := gw_mem 1275 (by decide +kernel) (by decide +kernel)
theorem gd_X9_289 : GoodIn gw_t (wsV RX9 289 RX9 yX9_says (.code yX9_says cX9_says 6 (some .int) :: gw_t)) := gw_wsV ml_X9_289 (gw_mem 1277 (by decide +kernel) (by decide +kernel)) (gw_mem 49 (by decide +kernel) (by decide +kernel)) (gw_mem 80 (by decide +kernel) (by decide +kernel)) cw_X9_says
theorem ml_X9_354 : Cond.methodLink RX9 354 yX9_isSheet ∈ gw_t := gw_mem 1352 (by decide +kernel) (by decide +kernel)
theorem gd_X9_354 : GoodIn gw_t (va_wsS RX9 354 yX9_isSheet (.code yX9_isSheet cX9_isSheet 1 (some .boolean) :: gw_t)) := gw_wsS ml_X9_354 (gw_mem 1353 (by decide +kernel) (by decide +kernel)) (gw_mem 80 (by decide +kernel) (by decide +kernel)) cw_X9_isSheet
theorem ml_X9_364 : Cond.methodLink RX9 364 yX9_draws ∈ gw_t := gw_mem 1371 (by decide +kernel) (by decide +kernel)
theorem gd_X9_364 : GoodIn gw_t (wsV RX9 364 RX9 yX9_draws (.code yX9_draws cX9_draws 6 none :: gw_t)) := gw_wsV ml_X9_364 (gw_mem 1373 (by decide +kernel) (by decide +kernel)) (gw_mem 61 (by decide +kernel) (by decide +kernel)) (gw_mem 80 (by decide +kernel) (by decide +kernel)) cw_X9_draws
theorem ml_X9_293 : Cond.methodLink RX9 293 yX9_leftMany ∈ gw_t := gw_mem 1283 (by decide +kernel) (by decide +kernel)
theorem gd_X9_293 : GoodIn gw_t (wsV RX9 293 RX9 yX9_leftMany (.code yX9_leftMany cX9_leftMany 1 (some .int) :: gw_t)) := gw_wsV ml_X9_293 (gw_mem 1285 (by decide +kernel) (by decide +kernel)) (gw_mem 51 (by decide +kernel) (by decide +kernel)) (gw_mem 80 (by decide +kernel) (by decide +kernel)) cw_X9_leftMany
theorem ml_X9_119 : Cond.methodLink RX9 119 yX9_isSlip ∈ gw_t := gw_mem 1140 (by decide +kernel) (by decide +kernel)
theorem gd_X9_119 : GoodIn gw_t (wsV RX9 119 RX9 yX9_isSlip (.code yX9_isSlip cX9_isSlip 2 (some .boolean) :: gw_t)) := gw_wsV ml_X9_119 (gw_mem 1142 (by decide +kernel) (by decide +kernel)) (gw_mem 25 (by decide +kernel) (by decide +kernel)) (gw_mem 80 (by decide +kernel) (by decide +kernel)) cw_X9_isSlip
theorem ml_X9_302 : Cond.methodLink RX9 302 yX9_calls ∈ gw_t := gw_mem 1253 (by decide +kernel) (by decide +kernel)
theorem gd_X9_302 : GoodIn gw_t (wsV RX9 302 RX9 yX9_calls (.code yX9_calls cX9_calls 6 none :: gw_t)) := gw_wsV ml_X9_302 (gw_mem 1255 (by decide +kernel) (by decide +kernel)) (gw_mem 45 (by decide +kernel) (by decide +kernel)) (gw_mem 80 (by decide +kernel) (by decide +kernel)) cw_X9_calls
theorem ml_X9_348 : Cond.methodLink RX9 348 yX9_goesOn ∈ gw_t := gw_mem 1320 (by decide +kernel) (by decide +kernel)
theorem gd_X9_348 : GoodIn gw_t (wsV RX9 348 RX9 yX9_goesOn (.code yX9_goesOn cX9_goesOn 3 none :: gw_t)) := gw_wsV ml_X9_348 (gw_mem 1322 (by decide +kernel) (by decide +kernel)) (gw_mem 57 (by decide +kernel) (by decide +kernel)) (gw_mem 80 (by decide +kernel) (by decide +kernel)) cw_X9_goesOn
theorem ml_X9_312 : Cond.methodLink RX9 312 yX9_tells ∈ gw_t := gw_mem 1279 (by decide +kernel) (by decide +kernel)
theorem gd_X9_312 : GoodIn gw_t (wsV RX9 312 RX9 yX9_tells (.code yX9_tells cX9_tells 2 (some .int) :: gw_t)) := gw_wsV ml_X9_312 (gw_mem 1281 (by decide +kernel) (by decide +kernel)) (gw_mem 50 (by decide +kernel) (by decide +kernel)) (gw_mem 80 (by decide +kernel) (by decide +kernel)) cw_X9_tells
theorem ml_X9_238 : Cond.methodLink RX9 238 yX9_both ∈ gw_t := gw_mem 1196 (by decide +kernel) (by decide +kernel)
theorem gd_X9_238 : GoodIn gw_t (wsV RX9 238 RX9 yX9_both (.code yX9_both cX9_both 3 (some .int) :: gw_t)) := gw_wsV ml_X9_238 (gw_mem 1198 (by decide +kernel) (by decide +kernel)) (gw_mem 34 (by decide +kernel) (by decide +kernel)) (gw_mem 80 (by decide +kernel) (by decide +kernel)) cw_X9_both
theorem ml_X9_306 : Cond.methodLink RX9 306 yX9_isRow ∈ gw_t := gw_mem 1238 (by decide +kernel) (by decide +kernel)
theorem gd_X9_306 : GoodIn gw_t (wsV RX9 306 RX9 yX9_isRow (.code yX9_isRow cX9_isRow 5 (some .boolean) :: gw_t)) := gw_wsV ml_X9_306 (gw_mem 1240 (by decide +kernel) (by decide +kernel)) (gw_mem 42 (by decide +kernel) (by decide +kernel)) (gw_mem 80 (by decide +kernel) (by decide +kernel)) cw_X9_isRow
theorem ml_X9_309 : Cond.methodLink RX9 309 yX9_goes ∈ gw_t := gw_mem 1242 (by decide +kernel) (by decide +kernel)
theorem gd_X9_309 : GoodIn gw_t (wsV RX9 309 RX9 yX9_goes (.code yX9_goes cX9_goes 4 none :: gw_t)) := gw_wsV ml_X9_309 (gw_mem 1244 (by decide +kernel) (by decide +kernel)) (gw_mem 43 (by decide +kernel) (by decide +kernel)) (gw_mem 80 (by decide +kernel) (by decide +kernel)) cw_X9_goes
theorem ml_X9_299 : Cond.methodLink RX9 299 yX9_sizeOf ∈ gw_t := gw_mem 1250 (by decide +kernel) (by decide +kernel)
theorem gd_X9_299 : GoodIn gw_t (va_wsS RX9 299 yX9_sizeOf (.code yX9_sizeOf cX9_sizeOf 3 (some .int) :: gw_t)) := gw_wsS ml_X9_299 (gw_mem 1251 (by decide +kernel) (by decide +kernel)) (gw_mem 80 (by decide +kernel) (by decide +kernel)) cw_X9_sizeOf
theorem ml_X9_345 : Cond.methodLink RX9 345 yX9_deskCalls ∈ gw_t := gw_mem 1324 (by decide +kernel) (by decide +kernel)
theorem gd_X9_345 : GoodIn gw_t (wsV RX9 345 RX9 yX9_deskCalls (.code yX9_deskCalls cX9_deskCalls 7 (some .int) :: gw_t)) := gw_wsV ml_X9_345 (gw_mem 1326 (by decide +kernel) (by decide +kernel)) (gw_mem 58 (by decide +kernel) (by decide +kernel)) (gw_mem 80 (by decide +kernel) (by decide +kernel)) cw_X9_deskCalls
theorem ml_X9_84 : Cond.methodLink RX9 84 yX9_spell ∈ gw_t := gw_mem 926 (by decide +kernel) (by decide +kernel)
theorem gd_X9_84 : GoodIn gw_t (wsV RX9 84 RX9 yX9_spell (.code yX9_spell cX9_spell 10 none :: gw_t)) := gw_wsV ml_X9_84 (gw_mem 928 (by decide +kernel) (by decide +kernel)) (gw_mem 23 (by decide +kernel) (by decide +kernel)) (gw_mem 80 (by decide +kernel) (by decide +kernel)) cw_X9_spell
theorem ml_X9_144 : Cond.methodLink RX9 144 yX9_byteAt ∈ gw_t := gw_mem 1168 (by decide +kernel) (by decide +kernel)
theorem gd_X9_144 : GoodIn gw_t (wsV RX9 144 RX9 yX9_byteAt (.code yX9_byteAt cX9_byteAt 2 (some .int) :: gw_t)) := gw_wsV ml_X9_144 (gw_mem 1170 (by decide +kernel) (by decide +kernel)) (gw_mem 28 (by decide +kernel) (by decide +kernel)) (gw_mem 80 (by decide +kernel) (by decide +kernel)) cw_X9_byteAt
theorem ml_X9_173 : Cond.methodLink RX9 173 yX9_isLetter ∈ gw_t := gw_mem 1180 (by decide +kernel) (by decide +kernel)
theorem gd_X9_173 : GoodIn gw_t (wsV RX9 173 RX9 yX9_isLetter (.code yX9_isLetter cX9_isLetter 3 (some .boolean) :: gw_t)) := gw_wsV ml_X9_173 (gw_mem 1182 (by decide +kernel) (by decide +kernel)) (gw_mem 30 (by decide +kernel) (by decide +kernel)) (gw_mem 80 (by decide +kernel) (by decide +kernel)) cw_X9_isLetter
theorem ml_X9_357 : Cond.methodLink RX9 357 yX9_tellBad ∈ gw_t := gw_mem 1348 (by decide +kernel) (by decide +kernel)
theorem gd_X9_357 : GoodIn gw_t (wsV RX9 357 RX9 yX9_tellBad (.code yX9_tellBad cX9_tellBad 2 (some .int) :: gw_t)) := gw_wsV ml_X9_357 (gw_mem 1350 (by decide +kernel) (by decide +kernel)) (gw_mem 59 (by decide +kernel) (by decide +kernel)) (gw_mem 80 (by decide +kernel) (by decide +kernel)) cw_X9_tellBad
theorem ml_X9_360 : Cond.methodLink RX9 360 yX9_wrongAt ∈ gw_t := gw_mem 1355 (by decide +kernel) (by decide +kernel)
theorem gd_X9_360 : GoodIn gw_t (wsV RX9 360 RX9 yX9_wrongAt (.code yX9_wrongAt cX9_wrongAt 4 (some .int) :: gw_t)) := gw_wsV ml_X9_360 (gw_mem 1357 (by decide +kernel) (by decide +kernel)) (gw_mem 60 (by decide +kernel) (by decide +kernel)) (gw_mem 80 (by decide +kernel) (by decide +kernel)) cw_X9_wrongAt
theorem ml_X9_233 : Cond.methodLink RX9 233 yX9_added ∈ gw_t := gw_mem 1208 (by decide +kernel) (by decide +kernel)
theorem gd_X9_233 : GoodIn gw_t (wsV RX9 233 RX9 yX9_added (.code yX9_added cX9_added 4 (some .int) :: gw_t)) := gw_wsV ml_X9_233 (gw_mem 1210 (by decide +kernel) (by decide +kernel)) (gw_mem 37 (by decide +kernel) (by decide +kernel)) (gw_mem 80 (by decide +kernel) (by decide +kernel)) cw_X9_added
theorem ml_X9_241 : Cond.methodLink RX9 241 yX9_part ∈ gw_t := gw_mem 1184 (by decide +kernel) (by decide +kernel)
theorem gd_X9_241 : GoodIn gw_t (wsV RX9 241 RX9 yX9_part (.code yX9_part cX9_part 3 (some .int) :: gw_t)) := gw_wsV ml_X9_241 (gw_mem 1186 (by decide +kernel) (by decide +kernel)) (gw_mem 31 (by decide +kernel) (by decide +kernel)) (gw_mem 80 (by decide +kernel) (by decide +kernel)) cw_X9_part
theorem ml_X9_324 : Cond.methodLink RX9 324 yX9_isBetter ∈ gw_t := gw_mem 1300 (by decide +kernel) (by decide +kernel)
theorem gd_X9_324 : GoodIn gw_t (wsV RX9 324 RX9 yX9_isBetter (.code yX9_isBetter cX9_isBetter 2 (some .boolean) :: gw_t)) := gw_wsV ml_X9_324 (gw_mem 1302 (by decide +kernel) (by decide +kernel)) (gw_mem 53 (by decide +kernel) (by decide +kernel)) (gw_mem 80 (by decide +kernel) (by decide +kernel)) cw_X9_isBetter
theorem ml_X9_330 : Cond.methodLink RX9 330 yX9_lays ∈ gw_t := gw_mem 1304 (by decide +kernel) (by decide +kernel)
theorem gd_X9_330 : GoodIn gw_t (wsV RX9 330 RX9 yX9_lays (.code yX9_lays cX9_lays 4 none :: gw_t)) := gw_wsV ml_X9_330 (gw_mem 1306 (by decide +kernel) (by decide +kernel)) (gw_mem 54 (by decide +kernel) (by decide +kernel)) (gw_mem 80 (by decide +kernel) (by decide +kernel)) cw_X9_lays
theorem ml_X9_337 : Cond.methodLink RX9 337 yX9_laysBack ∈ gw_t := gw_mem 1308 (by decide +kernel) (by decide +kernel)
theorem gd_X9_337 : GoodIn gw_t (wsV RX9 337 RX9 yX9_laysBack (.code yX9_laysBack cX9_laysBack 4 none :: gw_t)) := gw_wsV ml_X9_337 (gw_mem 1310 (by decide +kernel) (by decide +kernel)) (gw_mem 55 (by decide +kernel) (by decide +kernel)) (gw_mem 80 (by decide +kernel) (by decide +kernel)) cw_X9_laysBack
theorem ml_X9_245 : Cond.methodLink RX9 245 yX9_read ∈ gw_t := gw_mem 1160 (by decide +kernel) (by decide +kernel)
theorem gd_X9_245 : GoodIn gw_t (wsV RX9 245 RX9 yX9_read (.code yX9_read cX9_read 6 (some .int) :: gw_t)) := gw_wsV ml_X9_245 (gw_mem 1162 (by decide +kernel) (by decide +kernel)) (gw_mem 26 (by decide +kernel) (by decide +kernel)) (gw_mem 80 (by decide +kernel) (by decide +kernel)) cw_X9_read
theorem ml_X9_109 : Cond.methodLink RX9 109 yX9_isOne ∈ gw_t := gw_mem 1129 (by decide +kernel) (by decide +kernel)
theorem gd_X9_109 : GoodIn gw_t (wsV RX9 109 RX9 yX9_isOne (.code yX9_isOne cX9_isOne 2 (some .boolean) :: gw_t)) := gw_wsV ml_X9_109 (gw_mem 1131 (by decide +kernel) (by decide +kernel)) (gw_mem 24 (by decide +kernel) (by decide +kernel)) (gw_mem 80 (by decide +kernel) (by decide +kernel)) cw_X9_isOne
theorem ml_X9_385 : Cond.methodLink RX9 385 yX9_slip ∈ gw_t := gw_mem 1411 (by decide +kernel) (by decide +kernel)
theorem gd_X9_385 : GoodIn gw_t (wsV RX9 385 RX9 yX9_slip (.code yX9_slip cX9_slip 4 (some .int) :: gw_t)) := gw_wsV ml_X9_385 (gw_mem 1124 (by decide +kernel) (by decide +kernel)) (gw_mem 1125 (by decide +kernel) (by decide +kernel)) (gw_mem 80 (by decide +kernel) (by decide +kernel)) cw_X9_slip
theorem ml_X9_388 : Cond.methodLink RX9 388 yX9_over ∈ gw_t := gw_mem 1416 (by decide +kernel) (by decide +kernel)
theorem gd_X9_388 : GoodIn gw_t (va_wsS RX9 388 yX9_over (.code yX9_over cX9_over 1 (some .int) :: gw_t)) := gw_wsS ml_X9_388 (gw_mem 1417 (by decide +kernel) (by decide +kernel)) (gw_mem 80 (by decide +kernel) (by decide +kernel)) cw_X9_over
theorem kw_J11_76 : Cond.constant RJ11 76 (56320) ∈ gw_t := gw_mem 477 (by decide +kernel) (by decide +kernel)
theorem kw_J11_110 : Cond.constant RJ11 110 (55232) ∈ gw_t := gw_mem 473 (by decide +kernel) (by decide +kernel)
theorem kw_J2_227 : Cond.constant RJ2 227 (65536) ∈ gw_t := gw_mem 448 (by decide +kernel) (by decide +kernel)
theorem kw_J6_265 : Cond.constant RJ6 265 (1431655765) ∈ gw_t := gw_mem 725 (by decide +kernel) (by decide +kernel)
theorem kw_J6_266 : Cond.constant RJ6 266 (858993459) ∈ gw_t := gw_mem 726 (by decide +kernel) (by decide +kernel)
theorem kw_J6_267 : Cond.constant RJ6 267 (252645135) ∈ gw_t := gw_mem 727 (by decide +kernel) (by decide +kernel)
theorem kw_X0_164 : Cond.constant RX0 164 (1000000) ∈ gw_t := gw_mem 684 (by decide +kernel) (by decide +kernel)
theorem kw_X0_175 : Cond.constant RX0 175 (1103515245) ∈ gw_t := gw_mem 845 (by decide +kernel) (by decide +kernel)
theorem kw_X8_98 : Cond.constant RX8 98 (-100000) ∈ gw_t := gw_mem 629 (by decide +kernel) (by decide +kernel)
theorem kw_X8_194 : Cond.constantLong RX8 194 (-4611686018427387904) ∈ gw_t := gw_mem 854 (by decide +kernel) (by decide +kernel)
theorem kw_X9_101 : Cond.constantLong RX9 101 (99) ∈ gw_t := gw_mem 1118 (by decide +kernel) (by decide +kernel)
theorem kw_X9_103 : Cond.constantLong RX9 103 (7) ∈ gw_t := gw_mem 1122 (by decide +kernel) (by decide +kernel)
theorem kw_X9_105 : Cond.constantLong RX9 105 (5) ∈ gw_t := gw_mem 1127 (by decide +kernel) (by decide +kernel)
theorem kw_X9_107 : Cond.constantLong RX9 107 (10) ∈ gw_t := gw_mem 1128 (by decide +kernel) (by decide +kernel)
theorem kw_X9_113 : Cond.constantLong RX9 113 (6) ∈ gw_t := gw_mem 1137 (by decide +kernel) (by decide +kernel)
theorem kw_X9_115 : Cond.constantLong RX9 115 (2) ∈ gw_t := gw_mem 1138 (by decide +kernel) (by decide +kernel)
theorem kw_X9_117 : Cond.constantLong RX9 117 (4) ∈ gw_t := gw_mem 1139 (by decide +kernel) (by decide +kernel)
theorem kw_X9_122 : Cond.constant RX9 122 (-100000) ∈ gw_t := gw_mem 1144 (by decide +kernel) (by decide +kernel)
theorem kw_X9_123 : Cond.constantLong RX9 123 (-99) ∈ gw_t := gw_mem 1145 (by decide +kernel) (by decide +kernel)
theorem kw_X9_125 : Cond.constantLong RX9 125 (9) ∈ gw_t := gw_mem 1146 (by decide +kernel) (by decide +kernel)
theorem kw_X9_130 : Cond.constantLong RX9 130 (255) ∈ gw_t := gw_mem 1155 (by decide +kernel) (by decide +kernel)
theorem kw_X9_154 : Cond.constantLong RX9 154 (97) ∈ gw_t := gw_mem 1172 (by decide +kernel) (by decide +kernel)
theorem kw_X9_156 : Cond.constantLong RX9 156 (122) ∈ gw_t := gw_mem 1173 (by decide +kernel) (by decide +kernel)
theorem kw_X9_158 : Cond.constantLong RX9 158 (48) ∈ gw_t := gw_mem 1174 (by decide +kernel) (by decide +kernel)
theorem kw_X9_160 : Cond.constantLong RX9 160 (57) ∈ gw_t := gw_mem 1175 (by decide +kernel) (by decide +kernel)
theorem kw_X9_228 : Cond.constantLong RX9 228 (43) ∈ gw_t := gw_mem 1228 (by decide +kernel) (by decide +kernel)
theorem kw_X9_236 : Cond.constantLong RX9 236 (60) ∈ gw_t := gw_mem 1229 (by decide +kernel) (by decide +kernel)
theorem kw_X9_340 : Cond.constantLong RX9 340 (3) ∈ gw_t := gw_mem 1295 (by decide +kernel) (by decide +kernel)
theorem kw_X9_363 : Cond.constant RX9 363 (1103515245) ∈ gw_t := gw_mem 1375 (by decide +kernel) (by decide +kernel)
theorem kw_X9_367 : Cond.constantLong RX9 367 (20) ∈ gw_t := gw_mem 1380 (by decide +kernel) (by decide +kernel)
theorem kw_X9_369 : Cond.constantLong RX9 369 (-4611686018427387904) ∈ gw_t := gw_mem 1381 (by decide +kernel) (by decide +kernel)
theorem kw_X9_383 : Cond.constantLong RX9 383 (-1) ∈ gw_t := gw_mem 1398 (by decide +kernel) (by decide +kernel)
