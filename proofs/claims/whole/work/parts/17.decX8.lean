theorem dX8_init_0 : decode cX8_init 0 = .ok (.aload_n 0, 1) := by decide +kernel
theorem dX8_init_1 : decode cX8_init 1 = .ok (.invokespecial 1, 3) := by decide +kernel
theorem dX8_init_4 : decode cX8_init 4 = .ok (.aload_n 0, 1) := by decide +kernel
theorem dX8_init_5 : decode cX8_init 5 = .ok (.new 7, 3) := by decide +kernel
theorem dX8_init_8 : decode cX8_init 8 = .ok (.dup, 1) := by decide +kernel
theorem dX8_init_9 : decode cX8_init 9 = .ok (.invokespecial 9, 3) := by decide +kernel
theorem dX8_init_12 : decode cX8_init 12 = .ok (.putfield 10, 3) := by decide +kernel
theorem dX8_init_15 : decode cX8_init 15 = .ok (.aload_n 0, 1) := by decide +kernel
theorem dX8_init_16 : decode cX8_init 16 = .ok (.new 7, 3) := by decide +kernel
theorem dX8_init_19 : decode cX8_init 19 = .ok (.dup, 1) := by decide +kernel
theorem dX8_init_20 : decode cX8_init 20 = .ok (.invokespecial 9, 3) := by decide +kernel
theorem dX8_init_23 : decode cX8_init 23 = .ok (.putfield 16, 3) := by decide +kernel
theorem dX8_init_26 : decode cX8_init 26 = .ok (.aload_n 0, 1) := by decide +kernel
theorem dX8_init_27 : decode cX8_init 27 = .ok (.new 19, 3) := by decide +kernel
theorem dX8_init_30 : decode cX8_init 30 = .ok (.dup, 1) := by decide +kernel
theorem dX8_init_31 : decode cX8_init 31 = .ok (.invokespecial 21, 3) := by decide +kernel
theorem dX8_init_34 : decode cX8_init 34 = .ok (.putfield 22, 3) := by decide +kernel
theorem dX8_init_37 : decode cX8_init 37 = .ok (.aload_n 0, 1) := by decide +kernel
theorem dX8_init_38 : decode cX8_init 38 = .ok (.bipush 6, 2) := by decide +kernel
theorem dX8_init_40 : decode cX8_init 40 = .ok (.anewarray 26, 3) := by decide +kernel
theorem dX8_init_43 : decode cX8_init 43 = .ok (.putfield 28, 3) := by decide +kernel
theorem dX8_init_46 : decode cX8_init 46 = .ok (.aload_n 0, 1) := by decide +kernel
theorem dX8_init_47 : decode cX8_init 47 = .ok (.new 32, 3) := by decide +kernel
theorem dX8_init_50 : decode cX8_init 50 = .ok (.dup, 1) := by decide +kernel
theorem dX8_init_51 : decode cX8_init 51 = .ok (.aload_n 0, 1) := by decide +kernel
theorem dX8_init_52 : decode cX8_init 52 = .ok (.getfield 10, 3) := by decide +kernel
theorem dX8_init_55 : decode cX8_init 55 = .ok (.invokespecial 34, 3) := by decide +kernel
theorem dX8_init_58 : decode cX8_init 58 = .ok (.putfield 37, 3) := by decide +kernel
theorem dX8_init_61 : decode cX8_init 61 = .ok (.aload_n 0, 1) := by decide +kernel
theorem dX8_init_62 : decode cX8_init 62 = .ok (.new 41, 3) := by decide +kernel
theorem dX8_init_65 : decode cX8_init 65 = .ok (.dup, 1) := by decide +kernel
theorem dX8_init_66 : decode cX8_init 66 = .ok (.aload_n 0, 1) := by decide +kernel
theorem dX8_init_67 : decode cX8_init 67 = .ok (.getfield 10, 3) := by decide +kernel
theorem dX8_init_70 : decode cX8_init 70 = .ok (.invokespecial 43, 3) := by decide +kernel
theorem dX8_init_73 : decode cX8_init 73 = .ok (.putfield 44, 3) := by decide +kernel
theorem dX8_init_76 : decode cX8_init 76 = .ok (.aload_n 0, 1) := by decide +kernel
theorem dX8_init_77 : decode cX8_init 77 = .ok (.iconst 4, 1) := by decide +kernel
theorem dX8_init_78 : decode cX8_init 78 = .ok (.anewarray 48, 3) := by decide +kernel
theorem dX8_init_81 : decode cX8_init 81 = .ok (.putfield 50, 3) := by decide +kernel
theorem dX8_init_84 : decode cX8_init 84 = .ok (.iconst 0, 1) := by decide +kernel
theorem dX8_init_85 : decode cX8_init 85 = .ok (.istore_n 1, 1) := by decide +kernel
theorem dX8_init_86 : decode cX8_init 86 = .ok (.iload_n 1, 1) := by decide +kernel
theorem dX8_init_87 : decode cX8_init 87 = .ok (.ldc 54, 2) := by decide +kernel
theorem dX8_init_89 : decode cX8_init 89 = .ok (.invokevirtual 56, 3) := by decide +kernel
theorem dX8_init_92 : decode cX8_init 92 = .ok (.if_icmp .ge 23, 3) := by decide +kernel
theorem dX8_init_95 : decode cX8_init 95 = .ok (.aload_n 0, 1) := by decide +kernel
theorem dX8_init_96 : decode cX8_init 96 = .ok (.getfield 22, 3) := by decide +kernel
theorem dX8_init_99 : decode cX8_init 99 = .ok (.ldc 54, 2) := by decide +kernel
theorem dX8_init_101 : decode cX8_init 101 = .ok (.iload_n 1, 1) := by decide +kernel
theorem dX8_init_102 : decode cX8_init 102 = .ok (.invokevirtual 62, 3) := by decide +kernel
theorem dX8_init_105 : decode cX8_init 105 = .ok (.invokevirtual 66, 3) := by decide +kernel
theorem dX8_init_108 : decode cX8_init 108 = .ok (.pop, 1) := by decide +kernel
theorem dX8_init_109 : decode cX8_init 109 = .ok (.iinc 1 1, 3) := by decide +kernel
theorem dX8_init_112 : decode cX8_init 112 = .ok (.goto (-26), 3) := by decide +kernel
theorem dX8_init_115 : decode cX8_init 115 = .ok (.aload_n 0, 1) := by decide +kernel
theorem dX8_init_116 : decode cX8_init 116 = .ok (.getfield 22, 3) := by decide +kernel
theorem dX8_init_119 : decode cX8_init 119 = .ok (.invokevirtual 70, 3) := by decide +kernel
theorem dX8_init_122 : decode cX8_init 122 = .ok (.pop, 1) := by decide +kernel
theorem dX8_init_123 : decode cX8_init 123 = .ok (.aload_n 0, 1) := by decide +kernel
theorem dX8_init_124 : decode cX8_init 124 = .ok (.getfield 22, 3) := by decide +kernel
theorem dX8_init_127 : decode cX8_init 127 = .ok (.invokevirtual 74, 3) := by decide +kernel
theorem dX8_init_130 : decode cX8_init 130 = .ok (.astore_n 1, 1) := by decide +kernel
theorem dX8_init_131 : decode cX8_init 131 = .ok (.iconst 0, 1) := by decide +kernel
theorem dX8_init_132 : decode cX8_init 132 = .ok (.istore_n 2, 1) := by decide +kernel
theorem dX8_init_133 : decode cX8_init 133 = .ok (.iload_n 2, 1) := by decide +kernel
theorem dX8_init_134 : decode cX8_init 134 = .ok (.bipush 6, 2) := by decide +kernel
theorem dX8_init_136 : decode cX8_init 136 = .ok (.if_icmp .ge 16, 3) := by decide +kernel
theorem dX8_init_139 : decode cX8_init 139 = .ok (.aload_n 0, 1) := by decide +kernel
theorem dX8_init_140 : decode cX8_init 140 = .ok (.getfield 28, 3) := by decide +kernel
theorem dX8_init_143 : decode cX8_init 143 = .ok (.iload_n 2, 1) := by decide +kernel
theorem dX8_init_144 : decode cX8_init 144 = .ok (.aload_n 1, 1) := by decide +kernel
theorem dX8_init_145 : decode cX8_init 145 = .ok (.aastore, 1) := by decide +kernel
theorem dX8_init_146 : decode cX8_init 146 = .ok (.iinc 2 1, 3) := by decide +kernel
theorem dX8_init_149 : decode cX8_init 149 = .ok (.goto (-16), 3) := by decide +kernel
theorem dX8_init_152 : decode cX8_init 152 = .ok (.aload_n 0, 1) := by decide +kernel
theorem dX8_init_153 : decode cX8_init 153 = .ok (.iconst 1, 1) := by decide +kernel
theorem dX8_init_154 : decode cX8_init 154 = .ok (.putfield 78, 3) := by decide +kernel
theorem dX8_init_157 : decode cX8_init 157 = .ok (.iconst 0, 1) := by decide +kernel
theorem dX8_init_158 : decode cX8_init 158 = .ok (.istore_n 2, 1) := by decide +kernel
theorem dX8_init_159 : decode cX8_init 159 = .ok (.iload_n 2, 1) := by decide +kernel
theorem dX8_init_160 : decode cX8_init 160 = .ok (.iconst 4, 1) := by decide +kernel
theorem dX8_init_161 : decode cX8_init 161 = .ok (.if_icmp .ge 22, 3) := by decide +kernel
theorem dX8_init_164 : decode cX8_init 164 = .ok (.aload_n 0, 1) := by decide +kernel
theorem dX8_init_165 : decode cX8_init 165 = .ok (.getfield 50, 3) := by decide +kernel
theorem dX8_init_168 : decode cX8_init 168 = .ok (.iload_n 2, 1) := by decide +kernel
theorem dX8_init_169 : decode cX8_init 169 = .ok (.new 48, 3) := by decide +kernel
theorem dX8_init_172 : decode cX8_init 172 = .ok (.dup, 1) := by decide +kernel
theorem dX8_init_173 : decode cX8_init 173 = .ok (.invokespecial 82, 3) := by decide +kernel
theorem dX8_init_176 : decode cX8_init 176 = .ok (.aastore, 1) := by decide +kernel
theorem dX8_init_177 : decode cX8_init 177 = .ok (.iinc 2 1, 3) := by decide +kernel
theorem dX8_init_180 : decode cX8_init 180 = .ok (.goto (-21), 3) := by decide +kernel
theorem dX8_init_183 : decode cX8_init 183 = .ok (.return_, 1) := by decide +kernel
theorem dX8_come_0 : decode cX8_come 0 = .ok (.aload_n 0, 1) := by decide +kernel
theorem dX8_come_1 : decode cX8_come 1 = .ok (.getfield 10, 3) := by decide +kernel
theorem dX8_come_4 : decode cX8_come 4 = .ok (.iconst 0, 1) := by decide +kernel
theorem dX8_come_5 : decode cX8_come 5 = .ok (.iload_n 1, 1) := by decide +kernel
theorem dX8_come_6 : decode cX8_come 6 = .ok (.invokevirtual 83, 3) := by decide +kernel
theorem dX8_come_9 : decode cX8_come 9 = .ok (.ifCond .eq 15, 3) := by decide +kernel
theorem dX8_come_12 : decode cX8_come 12 = .ok (.aload_n 0, 1) := by decide +kernel
theorem dX8_come_13 : decode cX8_come 13 = .ok (.getfield 10, 3) := by decide +kernel
theorem dX8_come_16 : decode cX8_come 16 = .ok (.iconst 1, 1) := by decide +kernel
theorem dX8_come_17 : decode cX8_come 17 = .ok (.iload_n 2, 1) := by decide +kernel
theorem dX8_come_18 : decode cX8_come 18 = .ok (.invokevirtual 83, 3) := by decide +kernel
theorem dX8_come_21 : decode cX8_come 21 = .ok (.ifCond .ne 6, 3) := by decide +kernel
theorem dX8_come_24 : decode cX8_come 24 = .ok (.bipush (-2), 2) := by decide +kernel
theorem dX8_come_26 : decode cX8_come 26 = .ok (.ireturn, 1) := by decide +kernel
theorem dX8_come_27 : decode cX8_come 27 = .ok (.aload_n 0, 1) := by decide +kernel
theorem dX8_come_28 : decode cX8_come 28 = .ok (.getfield 10, 3) := by decide +kernel
theorem dX8_come_31 : decode cX8_come 31 = .ok (.iload_n 1, 1) := by decide +kernel
theorem dX8_come_32 : decode cX8_come 32 = .ok (.iload_n 2, 1) := by decide +kernel
theorem dX8_come_33 : decode cX8_come 33 = .ok (.invokevirtual 87, 3) := by decide +kernel
theorem dX8_come_36 : decode cX8_come 36 = .ok (.ireturn, 1) := by decide +kernel
theorem dX8_slip_0 : decode cX8_slip 0 = .ok (.aload_n 0, 1) := by decide +kernel
theorem dX8_slip_1 : decode cX8_slip 1 = .ok (.getfield 10, 3) := by decide +kernel
theorem dX8_slip_4 : decode cX8_slip 4 = .ok (.iload_n 1, 1) := by decide +kernel
theorem dX8_slip_5 : decode cX8_slip 5 = .ok (.iload_n 2, 1) := by decide +kernel
theorem dX8_slip_6 : decode cX8_slip 6 = .ok (.iload_n 3, 1) := by decide +kernel
theorem dX8_slip_7 : decode cX8_slip 7 = .ok (.invokevirtual 91, 3) := by decide +kernel
theorem dX8_slip_10 : decode cX8_slip 10 = .ok (.ireturn, 1) := by decide +kernel
theorem dX8_set_0 : decode cX8_set 0 = .ok (.aload_n 0, 1) := by decide +kernel
theorem dX8_set_1 : decode cX8_set 1 = .ok (.getfield 10, 3) := by decide +kernel
theorem dX8_set_4 : decode cX8_set 4 = .ok (.iload_n 1, 1) := by decide +kernel
theorem dX8_set_5 : decode cX8_set 5 = .ok (.iload_n 2, 1) := by decide +kernel
theorem dX8_set_6 : decode cX8_set 6 = .ok (.invokevirtual 95, 3) := by decide +kernel
theorem dX8_set_9 : decode cX8_set 9 = .ok (.ifCond .eq 15, 3) := by decide +kernel
theorem dX8_set_12 : decode cX8_set 12 = .ok (.aload_n 0, 1) := by decide +kernel
theorem dX8_set_13 : decode cX8_set 13 = .ok (.getfield 10, 3) := by decide +kernel
theorem dX8_set_16 : decode cX8_set 16 = .ok (.iload_n 1, 1) := by decide +kernel
theorem dX8_set_17 : decode cX8_set 17 = .ok (.iload_n 3, 1) := by decide +kernel
theorem dX8_set_18 : decode cX8_set 18 = .ok (.invokevirtual 83, 3) := by decide +kernel
theorem dX8_set_21 : decode cX8_set 21 = .ok (.ifCond .ne 6, 3) := by decide +kernel
theorem dX8_set_24 : decode cX8_set 24 = .ok (.ldc 98, 2) := by decide +kernel
theorem dX8_set_26 : decode cX8_set 26 = .ok (.ireturn, 1) := by decide +kernel
theorem dX8_set_27 : decode cX8_set 27 = .ok (.aload_n 0, 1) := by decide +kernel
theorem dX8_set_28 : decode cX8_set 28 = .ok (.getfield 10, 3) := by decide +kernel
theorem dX8_set_31 : decode cX8_set 31 = .ok (.iload_n 1, 1) := by decide +kernel
theorem dX8_set_32 : decode cX8_set 32 = .ok (.iload_n 2, 1) := by decide +kernel
theorem dX8_set_33 : decode cX8_set 33 = .ok (.invokevirtual 99, 3) := by decide +kernel
theorem dX8_set_36 : decode cX8_set 36 = .ok (.istore 4, 2) := by decide +kernel
theorem dX8_set_38 : decode cX8_set 38 = .ok (.aload_n 0, 1) := by decide +kernel
theorem dX8_set_39 : decode cX8_set 39 = .ok (.getfield 10, 3) := by decide +kernel
theorem dX8_set_42 : decode cX8_set 42 = .ok (.iload_n 1, 1) := by decide +kernel
theorem dX8_set_43 : decode cX8_set 43 = .ok (.iload_n 2, 1) := by decide +kernel
theorem dX8_set_44 : decode cX8_set 44 = .ok (.iload_n 3, 1) := by decide +kernel
theorem dX8_set_45 : decode cX8_set 45 = .ok (.invokevirtual 102, 3) := by decide +kernel
theorem dX8_set_48 : decode cX8_set 48 = .ok (.iload 4, 2) := by decide +kernel
theorem dX8_set_50 : decode cX8_set 50 = .ok (.ireturn, 1) := by decide +kernel
theorem dX8_told_0 : decode cX8_told 0 = .ok (.iload_n 2, 1) := by decide +kernel
theorem dX8_told_1 : decode cX8_told 1 = .ok (.iconst 5, 1) := by decide +kernel
theorem dX8_told_2 : decode cX8_told 2 = .ok (.if_icmp .ne 32, 3) := by decide +kernel
theorem dX8_told_5 : decode cX8_told 5 = .ok (.aload_n 0, 1) := by decide +kernel
theorem dX8_told_6 : decode cX8_told 6 = .ok (.getfield 10, 3) := by decide +kernel
theorem dX8_told_9 : decode cX8_told 9 = .ok (.iload_n 1, 1) := by decide +kernel
theorem dX8_told_10 : decode cX8_told 10 = .ok (.invokevirtual 106, 3) := by decide +kernel
theorem dX8_told_13 : decode cX8_told 13 = .ok (.ifCond .eq 18, 3) := by decide +kernel
theorem dX8_told_16 : decode cX8_told 16 = .ok (.aload_n 0, 1) := by decide +kernel
theorem dX8_told_17 : decode cX8_told 17 = .ok (.getfield 10, 3) := by decide +kernel
theorem dX8_told_20 : decode cX8_told 20 = .ok (.getfield 109, 3) := by decide +kernel
theorem dX8_told_23 : decode cX8_told 23 = .ok (.iload_n 1, 1) := by decide +kernel
theorem dX8_told_24 : decode cX8_told 24 = .ok (.aaload, 1) := by decide +kernel
theorem dX8_told_25 : decode cX8_told 25 = .ok (.getfield 113, 3) := by decide +kernel
theorem dX8_told_28 : decode cX8_told 28 = .ok (.goto 5, 3) := by decide +kernel
theorem dX8_told_31 : decode cX8_told 31 = .ok (.bipush (-2), 2) := by decide +kernel
theorem dX8_told_33 : decode cX8_told 33 = .ok (.ireturn, 1) := by decide +kernel
theorem dX8_told_34 : decode cX8_told 34 = .ok (.iload_n 2, 1) := by decide +kernel
theorem dX8_told_35 : decode cX8_told 35 = .ok (.iconst 4, 1) := by decide +kernel
theorem dX8_told_36 : decode cX8_told 36 = .ok (.if_icmp .gt 15, 3) := by decide +kernel
theorem dX8_told_39 : decode cX8_told 39 = .ok (.aload_n 0, 1) := by decide +kernel
theorem dX8_told_40 : decode cX8_told 40 = .ok (.getfield 10, 3) := by decide +kernel
theorem dX8_told_43 : decode cX8_told 43 = .ok (.iload_n 2, 1) := by decide +kernel
theorem dX8_told_44 : decode cX8_told 44 = .ok (.iload_n 1, 1) := by decide +kernel
theorem dX8_told_45 : decode cX8_told 45 = .ok (.invokevirtual 95, 3) := by decide +kernel
theorem dX8_told_48 : decode cX8_told 48 = .ok (.ifCond .ne 6, 3) := by decide +kernel
theorem dX8_told_51 : decode cX8_told 51 = .ok (.bipush (-2), 2) := by decide +kernel
theorem dX8_told_53 : decode cX8_told 53 = .ok (.ireturn, 1) := by decide +kernel
theorem dX8_told_54 : decode cX8_told 54 = .ok (.aload_n 0, 1) := by decide +kernel
theorem dX8_told_55 : decode cX8_told 55 = .ok (.getfield 10, 3) := by decide +kernel
theorem dX8_told_58 : decode cX8_told 58 = .ok (.iload_n 2, 1) := by decide +kernel
theorem dX8_told_59 : decode cX8_told 59 = .ok (.iload_n 1, 1) := by decide +kernel
theorem dX8_told_60 : decode cX8_told 60 = .ok (.invokevirtual 99, 3) := by decide +kernel
theorem dX8_told_63 : decode cX8_told 63 = .ok (.ireturn, 1) := by decide +kernel
theorem dX8_feed_0 : decode cX8_feed 0 = .ok (.iload_n 1, 1) := by decide +kernel
theorem dX8_feed_1 : decode cX8_feed 1 = .ok (.ifCond .lt 10, 3) := by decide +kernel
theorem dX8_feed_4 : decode cX8_feed 4 = .ok (.iload_n 1, 1) := by decide +kernel
theorem dX8_feed_5 : decode cX8_feed 5 = .ok (.sipush 255, 3) := by decide +kernel
theorem dX8_feed_8 : decode cX8_feed 8 = .ok (.if_icmp .le 6, 3) := by decide +kernel
theorem dX8_feed_11 : decode cX8_feed 11 = .ok (.bipush (-2), 2) := by decide +kernel
theorem dX8_feed_13 : decode cX8_feed 13 = .ok (.ireturn, 1) := by decide +kernel
theorem dX8_feed_14 : decode cX8_feed 14 = .ok (.aload_n 0, 1) := by decide +kernel
theorem dX8_feed_15 : decode cX8_feed 15 = .ok (.getfield 22, 3) := by decide +kernel
theorem dX8_feed_18 : decode cX8_feed 18 = .ok (.iload_n 1, 1) := by decide +kernel
theorem dX8_feed_19 : decode cX8_feed 19 = .ok (.invokevirtual 66, 3) := by decide +kernel
theorem dX8_feed_22 : decode cX8_feed 22 = .ok (.ifCond .eq 13, 3) := by decide +kernel
theorem dX8_feed_25 : decode cX8_feed 25 = .ok (.aload_n 0, 1) := by decide +kernel
theorem dX8_feed_26 : decode cX8_feed 26 = .ok (.getfield 22, 3) := by decide +kernel
theorem dX8_feed_29 : decode cX8_feed 29 = .ok (.getfield 118, 3) := by decide +kernel
theorem dX8_feed_32 : decode cX8_feed 32 = .ok (.goto 5, 3) := by decide +kernel
theorem dX8_feed_35 : decode cX8_feed 35 = .ok (.bipush (-4), 2) := by decide +kernel
theorem dX8_feed_37 : decode cX8_feed 37 = .ok (.ireturn, 1) := by decide +kernel
theorem dX8_text_0 : decode cX8_text 0 = .ok (.aload_n 0, 1) := by decide +kernel
theorem dX8_text_1 : decode cX8_text 1 = .ok (.getfield 78, 3) := by decide +kernel
theorem dX8_text_4 : decode cX8_text 4 = .ok (.bipush 6, 2) := by decide +kernel
theorem dX8_text_6 : decode cX8_text 6 = .ok (.if_icmp .lt 6, 3) := by decide +kernel
theorem dX8_text_9 : decode cX8_text 9 = .ok (.bipush (-4), 2) := by decide +kernel
theorem dX8_text_11 : decode cX8_text 11 = .ok (.ireturn, 1) := by decide +kernel
theorem dX8_text_12 : decode cX8_text 12 = .ok (.aload_n 0, 1) := by decide +kernel
theorem dX8_text_13 : decode cX8_text 13 = .ok (.getfield 22, 3) := by decide +kernel
theorem dX8_text_16 : decode cX8_text 16 = .ok (.invokevirtual 70, 3) := by decide +kernel
theorem dX8_text_19 : decode cX8_text 19 = .ok (.ifCond .ne 14, 3) := by decide +kernel
theorem dX8_text_22 : decode cX8_text 22 = .ok (.bipush (-100), 2) := by decide +kernel
theorem dX8_text_24 : decode cX8_text 24 = .ok (.aload_n 0, 1) := by decide +kernel
theorem dX8_text_25 : decode cX8_text 25 = .ok (.getfield 22, 3) := by decide +kernel
theorem dX8_text_28 : decode cX8_text 28 = .ok (.getfield 121, 3) := by decide +kernel
theorem dX8_text_31 : decode cX8_text 31 = .ok (.isub, 1) := by decide +kernel
theorem dX8_text_32 : decode cX8_text 32 = .ok (.ireturn, 1) := by decide +kernel
theorem dX8_text_33 : decode cX8_text 33 = .ok (.aload_n 0, 1) := by decide +kernel
theorem dX8_text_34 : decode cX8_text 34 = .ok (.getfield 28, 3) := by decide +kernel
theorem dX8_text_37 : decode cX8_text 37 = .ok (.aload_n 0, 1) := by decide +kernel
theorem dX8_text_38 : decode cX8_text 38 = .ok (.getfield 78, 3) := by decide +kernel
theorem dX8_text_41 : decode cX8_text 41 = .ok (.aload_n 0, 1) := by decide +kernel
theorem dX8_text_42 : decode cX8_text 42 = .ok (.getfield 22, 3) := by decide +kernel
theorem dX8_text_45 : decode cX8_text 45 = .ok (.invokevirtual 74, 3) := by decide +kernel
theorem dX8_text_48 : decode cX8_text 48 = .ok (.aastore, 1) := by decide +kernel
theorem dX8_text_49 : decode cX8_text 49 = .ok (.aload_n 0, 1) := by decide +kernel
theorem dX8_text_50 : decode cX8_text 50 = .ok (.dup, 1) := by decide +kernel
theorem dX8_text_51 : decode cX8_text 51 = .ok (.getfield 78, 3) := by decide +kernel
theorem dX8_text_54 : decode cX8_text 54 = .ok (.iconst 1, 1) := by decide +kernel
theorem dX8_text_55 : decode cX8_text 55 = .ok (.iadd, 1) := by decide +kernel
theorem dX8_text_56 : decode cX8_text 56 = .ok (.putfield 78, 3) := by decide +kernel
theorem dX8_text_59 : decode cX8_text 59 = .ok (.aload_n 0, 1) := by decide +kernel
theorem dX8_text_60 : decode cX8_text 60 = .ok (.getfield 78, 3) := by decide +kernel
theorem dX8_text_63 : decode cX8_text 63 = .ok (.iconst 1, 1) := by decide +kernel
theorem dX8_text_64 : decode cX8_text 64 = .ok (.isub, 1) := by decide +kernel
theorem dX8_text_65 : decode cX8_text 65 = .ok (.ireturn, 1) := by decide +kernel
theorem dX8_force_0 : decode cX8_force 0 = .ok (.iload_n 1, 1) := by decide +kernel
theorem dX8_force_1 : decode cX8_force 1 = .ok (.ifCond .lt 11, 3) := by decide +kernel
theorem dX8_force_4 : decode cX8_force 4 = .ok (.iload_n 1, 1) := by decide +kernel
theorem dX8_force_5 : decode cX8_force 5 = .ok (.aload_n 0, 1) := by decide +kernel
theorem dX8_force_6 : decode cX8_force 6 = .ok (.getfield 78, 3) := by decide +kernel
theorem dX8_force_9 : decode cX8_force 9 = .ok (.if_icmp .lt 6, 3) := by decide +kernel
theorem dX8_force_12 : decode cX8_force 12 = .ok (.bipush (-2), 2) := by decide +kernel
theorem dX8_force_14 : decode cX8_force 14 = .ok (.ireturn, 1) := by decide +kernel
theorem dX8_force_15 : decode cX8_force 15 = .ok (.aload_n 0, 1) := by decide +kernel
theorem dX8_force_16 : decode cX8_force 16 = .ok (.getfield 10, 3) := by decide +kernel
theorem dX8_force_19 : decode cX8_force 19 = .ok (.getfield 124, 3) := by decide +kernel
theorem dX8_force_22 : decode cX8_force 22 = .ok (.istore_n 2, 1) := by decide +kernel
theorem dX8_force_23 : decode cX8_force 23 = .ok (.aload_n 0, 1) := by decide +kernel
theorem dX8_force_24 : decode cX8_force 24 = .ok (.getfield 10, 3) := by decide +kernel
theorem dX8_force_27 : decode cX8_force 27 = .ok (.iload_n 1, 1) := by decide +kernel
theorem dX8_force_28 : decode cX8_force 28 = .ok (.invokevirtual 127, 3) := by decide +kernel
theorem dX8_force_31 : decode cX8_force 31 = .ok (.iload_n 2, 1) := by decide +kernel
theorem dX8_force_32 : decode cX8_force 32 = .ok (.ireturn, 1) := by decide +kernel
theorem dX8_evening_0 : decode cX8_evening 0 = .ok (.aload_n 0, 1) := by decide +kernel
theorem dX8_evening_1 : decode cX8_evening 1 = .ok (.getfield 10, 3) := by decide +kernel
theorem dX8_evening_4 : decode cX8_evening 4 = .ok (.iload_n 1, 1) := by decide +kernel
theorem dX8_evening_5 : decode cX8_evening 5 = .ok (.invokevirtual 131, 3) := by decide +kernel
theorem dX8_evening_8 : decode cX8_evening 8 = .ok (.ifCond .eq 12, 3) := by decide +kernel
theorem dX8_evening_11 : decode cX8_evening 11 = .ok (.iload_n 2, 1) := by decide +kernel
theorem dX8_evening_12 : decode cX8_evening 12 = .ok (.ifCond .lt 8, 3) := by decide +kernel
theorem dX8_evening_15 : decode cX8_evening 15 = .ok (.iload_n 2, 1) := by decide +kernel
theorem dX8_evening_16 : decode cX8_evening 16 = .ok (.iconst 5, 1) := by decide +kernel
theorem dX8_evening_17 : decode cX8_evening 17 = .ok (.if_icmp .le 6, 3) := by decide +kernel
theorem dX8_evening_20 : decode cX8_evening 20 = .ok (.ldc 98, 2) := by decide +kernel
theorem dX8_evening_22 : decode cX8_evening 22 = .ok (.ireturn, 1) := by decide +kernel
theorem dX8_evening_23 : decode cX8_evening 23 = .ok (.aload_n 0, 1) := by decide +kernel
theorem dX8_evening_24 : decode cX8_evening 24 = .ok (.getfield 37, 3) := by decide +kernel
theorem dX8_evening_27 : decode cX8_evening 27 = .ok (.aload_n 0, 1) := by decide +kernel
theorem dX8_evening_28 : decode cX8_evening 28 = .ok (.invokevirtual 134, 3) := by decide +kernel
theorem dX8_evening_31 : decode cX8_evening 31 = .ok (.invokevirtual 136, 3) := by decide +kernel
theorem dX8_evening_34 : decode cX8_evening 34 = .ok (.aload_n 0, 1) := by decide +kernel
theorem dX8_evening_35 : decode cX8_evening 35 = .ok (.getfield 37, 3) := by decide +kernel
theorem dX8_evening_38 : decode cX8_evening 38 = .ok (.iload_n 1, 1) := by decide +kernel
theorem dX8_evening_39 : decode cX8_evening 39 = .ok (.invokevirtual 140, 3) := by decide +kernel
theorem dX8_evening_42 : decode cX8_evening 42 = .ok (.aload_n 0, 1) := by decide +kernel
theorem dX8_evening_43 : decode cX8_evening 43 = .ok (.getfield 37, 3) := by decide +kernel
theorem dX8_evening_46 : decode cX8_evening 46 = .ok (.iload_n 2, 1) := by decide +kernel
theorem dX8_evening_47 : decode cX8_evening 47 = .ok (.invokevirtual 143, 3) := by decide +kernel
theorem dX8_evening_50 : decode cX8_evening 50 = .ok (.ireturn, 1) := by decide +kernel
theorem dX8_best_0 : decode cX8_best 0 = .ok (.iload_n 1, 1) := by decide +kernel
theorem dX8_best_1 : decode cX8_best 1 = .ok (.ifCond .lt 17, 3) := by decide +kernel
theorem dX8_best_4 : decode cX8_best 4 = .ok (.iload_n 1, 1) := by decide +kernel
theorem dX8_best_5 : decode cX8_best 5 = .ok (.iconst 2, 1) := by decide +kernel
theorem dX8_best_6 : decode cX8_best 6 = .ok (.if_icmp .ge 12, 3) := by decide +kernel
theorem dX8_best_9 : decode cX8_best 9 = .ok (.iload_n 2, 1) := by decide +kernel
theorem dX8_best_10 : decode cX8_best 10 = .ok (.ifCond .lt 8, 3) := by decide +kernel
theorem dX8_best_13 : decode cX8_best 13 = .ok (.iload_n 2, 1) := by decide +kernel
theorem dX8_best_14 : decode cX8_best 14 = .ok (.iconst 4, 1) := by decide +kernel
theorem dX8_best_15 : decode cX8_best 15 = .ok (.if_icmp .lt 6, 3) := by decide +kernel
theorem dX8_best_18 : decode cX8_best 18 = .ok (.bipush (-2), 2) := by decide +kernel
theorem dX8_best_20 : decode cX8_best 20 = .ok (.ireturn, 1) := by decide +kernel
theorem dX8_best_21 : decode cX8_best 21 = .ok (.aload_n 0, 1) := by decide +kernel
theorem dX8_best_22 : decode cX8_best 22 = .ok (.getfield 44, 3) := by decide +kernel
theorem dX8_best_25 : decode cX8_best 25 = .ok (.aload_n 0, 1) := by decide +kernel
theorem dX8_best_26 : decode cX8_best 26 = .ok (.invokevirtual 134, 3) := by decide +kernel
theorem dX8_best_29 : decode cX8_best 29 = .ok (.invokevirtual 147, 3) := by decide +kernel
theorem dX8_best_32 : decode cX8_best 32 = .ok (.aload_n 0, 1) := by decide +kernel
theorem dX8_best_33 : decode cX8_best 33 = .ok (.getfield 44, 3) := by decide +kernel
theorem dX8_best_36 : decode cX8_best 36 = .ok (.iload_n 1, 1) := by decide +kernel
theorem dX8_best_37 : decode cX8_best 37 = .ok (.iload_n 2, 1) := by decide +kernel
theorem dX8_best_38 : decode cX8_best 38 = .ok (.invokevirtual 150, 3) := by decide +kernel
theorem dX8_best_41 : decode cX8_best 41 = .ok (.ireturn, 1) := by decide +kernel
theorem dX8_desk_0 : decode cX8_desk 0 = .ok (.iload_n 1, 1) := by decide +kernel
theorem dX8_desk_1 : decode cX8_desk 1 = .ok (.ifCond .lt 9, 3) := by decide +kernel
theorem dX8_desk_4 : decode cX8_desk 4 = .ok (.iload_n 1, 1) := by decide +kernel
theorem dX8_desk_5 : decode cX8_desk 5 = .ok (.bipush 6, 2) := by decide +kernel
theorem dX8_desk_7 : decode cX8_desk 7 = .ok (.if_icmp .le 6, 3) := by decide +kernel
theorem dX8_desk_10 : decode cX8_desk 10 = .ok (.ldc 98, 2) := by decide +kernel
theorem dX8_desk_12 : decode cX8_desk 12 = .ok (.ireturn, 1) := by decide +kernel
theorem dX8_desk_13 : decode cX8_desk 13 = .ok (.aload_n 0, 1) := by decide +kernel
theorem dX8_desk_14 : decode cX8_desk 14 = .ok (.aload_n 0, 1) := by decide +kernel
theorem dX8_desk_15 : decode cX8_desk 15 = .ok (.invokevirtual 134, 3) := by decide +kernel
theorem dX8_desk_18 : decode cX8_desk 18 = .ok (.iconst (-1), 1) := by decide +kernel
theorem dX8_desk_19 : decode cX8_desk 19 = .ok (.invokevirtual 152, 3) := by decide +kernel
theorem dX8_desk_22 : decode cX8_desk 22 = .ok (.aload_n 0, 1) := by decide +kernel
theorem dX8_desk_23 : decode cX8_desk 23 = .ok (.getfield 37, 3) := by decide +kernel
theorem dX8_desk_26 : decode cX8_desk 26 = .ok (.iload_n 1, 1) := by decide +kernel
theorem dX8_desk_27 : decode cX8_desk 27 = .ok (.invokevirtual 143, 3) := by decide +kernel
theorem dX8_desk_30 : decode cX8_desk 30 = .ok (.ireturn, 1) := by decide +kernel
theorem dX8_hold_0 : decode cX8_hold 0 = .ok (.aload_n 0, 1) := by decide +kernel
theorem dX8_hold_1 : decode cX8_hold 1 = .ok (.getfield 10, 3) := by decide +kernel
theorem dX8_hold_4 : decode cX8_hold 4 = .ok (.iload_n 1, 1) := by decide +kernel
theorem dX8_hold_5 : decode cX8_hold 5 = .ok (.invokevirtual 131, 3) := by decide +kernel
theorem dX8_hold_8 : decode cX8_hold 8 = .ok (.ifCond .ne 6, 3) := by decide +kernel
theorem dX8_hold_11 : decode cX8_hold 11 = .ok (.ldc 98, 2) := by decide +kernel
theorem dX8_hold_13 : decode cX8_hold 13 = .ok (.ireturn, 1) := by decide +kernel
theorem dX8_hold_14 : decode cX8_hold 14 = .ok (.aload_n 0, 1) := by decide +kernel
theorem dX8_hold_15 : decode cX8_hold 15 = .ok (.getfield 37, 3) := by decide +kernel
theorem dX8_hold_18 : decode cX8_hold 18 = .ok (.aload_n 0, 1) := by decide +kernel
theorem dX8_hold_19 : decode cX8_hold 19 = .ok (.invokevirtual 134, 3) := by decide +kernel
theorem dX8_hold_22 : decode cX8_hold 22 = .ok (.invokevirtual 136, 3) := by decide +kernel
theorem dX8_hold_25 : decode cX8_hold 25 = .ok (.aload_n 0, 1) := by decide +kernel
theorem dX8_hold_26 : decode cX8_hold 26 = .ok (.getfield 37, 3) := by decide +kernel
theorem dX8_hold_29 : decode cX8_hold 29 = .ok (.iload_n 1, 1) := by decide +kernel
theorem dX8_hold_30 : decode cX8_hold 30 = .ok (.invokevirtual 140, 3) := by decide +kernel
theorem dX8_hold_33 : decode cX8_hold 33 = .ok (.aload_n 0, 1) := by decide +kernel
theorem dX8_hold_34 : decode cX8_hold 34 = .ok (.getfield 10, 3) := by decide +kernel
theorem dX8_hold_37 : decode cX8_hold 37 = .ok (.iconst 5, 1) := by decide +kernel
theorem dX8_hold_38 : decode cX8_hold 38 = .ok (.iconst 0, 1) := by decide +kernel
theorem dX8_hold_39 : decode cX8_hold 39 = .ok (.aload_n 0, 1) := by decide +kernel
theorem dX8_hold_40 : decode cX8_hold 40 = .ok (.getfield 37, 3) := by decide +kernel
theorem dX8_hold_43 : decode cX8_hold 43 = .ok (.getfield 156, 3) := by decide +kernel
theorem dX8_hold_46 : decode cX8_hold 46 = .ok (.invokevirtual 102, 3) := by decide +kernel
theorem dX8_hold_49 : decode cX8_hold 49 = .ok (.aload_n 0, 1) := by decide +kernel
theorem dX8_hold_50 : decode cX8_hold 50 = .ok (.getfield 37, 3) := by decide +kernel
theorem dX8_hold_53 : decode cX8_hold 53 = .ok (.getfield 159, 3) := by decide +kernel
theorem dX8_hold_56 : decode cX8_hold 56 = .ok (.ireturn, 1) := by decide +kernel
theorem dX8_wait_0 : decode cX8_wait 0 = .ok (.aload_n 0, 1) := by decide +kernel
theorem dX8_wait_1 : decode cX8_wait 1 = .ok (.getfield 10, 3) := by decide +kernel
theorem dX8_wait_4 : decode cX8_wait 4 = .ok (.iload_n 1, 1) := by decide +kernel
theorem dX8_wait_5 : decode cX8_wait 5 = .ok (.invokevirtual 106, 3) := by decide +kernel
theorem dX8_wait_8 : decode cX8_wait 8 = .ok (.ifCond .ne 6, 3) := by decide +kernel
theorem dX8_wait_11 : decode cX8_wait 11 = .ok (.bipush (-2), 2) := by decide +kernel
theorem dX8_wait_13 : decode cX8_wait 13 = .ok (.ireturn, 1) := by decide +kernel
theorem dX8_wait_14 : decode cX8_wait 14 = .ok (.aload_n 0, 1) := by decide +kernel
theorem dX8_wait_15 : decode cX8_wait 15 = .ok (.aload_n 0, 1) := by decide +kernel
theorem dX8_wait_16 : decode cX8_wait 16 = .ok (.invokevirtual 134, 3) := by decide +kernel
theorem dX8_wait_19 : decode cX8_wait 19 = .ok (.iconst (-1), 1) := by decide +kernel
theorem dX8_wait_20 : decode cX8_wait 20 = .ok (.invokevirtual 152, 3) := by decide +kernel
theorem dX8_wait_23 : decode cX8_wait 23 = .ok (.aload_n 0, 1) := by decide +kernel
theorem dX8_wait_24 : decode cX8_wait 24 = .ok (.getfield 37, 3) := by decide +kernel
theorem dX8_wait_27 : decode cX8_wait 27 = .ok (.getfield 162, 3) := by decide +kernel
theorem dX8_wait_30 : decode cX8_wait 30 = .ok (.iload_n 1, 1) := by decide +kernel
theorem dX8_wait_31 : decode cX8_wait 31 = .ok (.iaload, 1) := by decide +kernel
theorem dX8_wait_32 : decode cX8_wait 32 = .ok (.ireturn, 1) := by decide +kernel
theorem dX8_refuse_0 : decode cX8_refuse 0 = .ok (.iload_n 1, 1) := by decide +kernel
theorem dX8_refuse_1 : decode cX8_refuse 1 = .ok (.ifCond .eq 11, 3) := by decide +kernel
theorem dX8_refuse_4 : decode cX8_refuse 4 = .ok (.iload_n 1, 1) := by decide +kernel
theorem dX8_refuse_5 : decode cX8_refuse 5 = .ok (.iconst 1, 1) := by decide +kernel
theorem dX8_refuse_6 : decode cX8_refuse 6 = .ok (.if_icmp .eq 6, 3) := by decide +kernel
theorem dX8_refuse_9 : decode cX8_refuse 9 = .ok (.bipush (-2), 2) := by decide +kernel
theorem dX8_refuse_11 : decode cX8_refuse 11 = .ok (.ireturn, 1) := by decide +kernel
theorem dX8_refuse_12 : decode cX8_refuse 12 = .ok (.aload_n 0, 1) := by decide +kernel
theorem dX8_refuse_13 : decode cX8_refuse 13 = .ok (.aload_n 0, 1) := by decide +kernel
theorem dX8_refuse_14 : decode cX8_refuse 14 = .ok (.invokevirtual 134, 3) := by decide +kernel
theorem dX8_refuse_17 : decode cX8_refuse 17 = .ok (.iconst (-1), 1) := by decide +kernel
theorem dX8_refuse_18 : decode cX8_refuse 18 = .ok (.invokevirtual 152, 3) := by decide +kernel
theorem dX8_refuse_21 : decode cX8_refuse 21 = .ok (.aload_n 0, 1) := by decide +kernel
theorem dX8_refuse_22 : decode cX8_refuse 22 = .ok (.getfield 37, 3) := by decide +kernel
theorem dX8_refuse_25 : decode cX8_refuse 25 = .ok (.getfield 159, 3) := by decide +kernel
theorem dX8_refuse_28 : decode cX8_refuse 28 = .ok (.istore_n 2, 1) := by decide +kernel
theorem dX8_refuse_29 : decode cX8_refuse 29 = .ok (.iconst (-1), 1) := by decide +kernel
theorem dX8_refuse_30 : decode cX8_refuse 30 = .ok (.istore_n 3, 1) := by decide +kernel
theorem dX8_refuse_31 : decode cX8_refuse 31 = .ok (.iconst 0, 1) := by decide +kernel
theorem dX8_refuse_32 : decode cX8_refuse 32 = .ok (.istore 4, 2) := by decide +kernel
theorem dX8_refuse_34 : decode cX8_refuse 34 = .ok (.iload 4, 2) := by decide +kernel
theorem dX8_refuse_36 : decode cX8_refuse 36 = .ok (.aload_n 0, 1) := by decide +kernel
theorem dX8_refuse_37 : decode cX8_refuse 37 = .ok (.getfield 10, 3) := by decide +kernel
theorem dX8_refuse_40 : decode cX8_refuse 40 = .ok (.getfield 166, 3) := by decide +kernel
theorem dX8_refuse_43 : decode cX8_refuse 43 = .ok (.if_icmp .ge 41, 3) := by decide +kernel
theorem dX8_refuse_46 : decode cX8_refuse 46 = .ok (.aload_n 0, 1) := by decide +kernel
theorem dX8_refuse_47 : decode cX8_refuse 47 = .ok (.aload_n 0, 1) := by decide +kernel
theorem dX8_refuse_48 : decode cX8_refuse 48 = .ok (.invokevirtual 134, 3) := by decide +kernel
theorem dX8_refuse_51 : decode cX8_refuse 51 = .ok (.iload 4, 2) := by decide +kernel
theorem dX8_refuse_53 : decode cX8_refuse 53 = .ok (.invokevirtual 152, 3) := by decide +kernel
theorem dX8_refuse_56 : decode cX8_refuse 56 = .ok (.aload_n 0, 1) := by decide +kernel
theorem dX8_refuse_57 : decode cX8_refuse 57 = .ok (.getfield 37, 3) := by decide +kernel
theorem dX8_refuse_60 : decode cX8_refuse 60 = .ok (.getfield 159, 3) := by decide +kernel
theorem dX8_refuse_63 : decode cX8_refuse 63 = .ok (.iload_n 2, 1) := by decide +kernel
theorem dX8_refuse_64 : decode cX8_refuse 64 = .ok (.if_icmp .le 14, 3) := by decide +kernel
theorem dX8_refuse_67 : decode cX8_refuse 67 = .ok (.aload_n 0, 1) := by decide +kernel
theorem dX8_refuse_68 : decode cX8_refuse 68 = .ok (.getfield 37, 3) := by decide +kernel
theorem dX8_refuse_71 : decode cX8_refuse 71 = .ok (.getfield 159, 3) := by decide +kernel
theorem dX8_refuse_74 : decode cX8_refuse 74 = .ok (.istore_n 2, 1) := by decide +kernel
theorem dX8_refuse_75 : decode cX8_refuse 75 = .ok (.iload 4, 2) := by decide +kernel
theorem dX8_refuse_77 : decode cX8_refuse 77 = .ok (.istore_n 3, 1) := by decide +kernel
theorem dX8_refuse_78 : decode cX8_refuse 78 = .ok (.iinc 4 1, 3) := by decide +kernel
theorem dX8_refuse_81 : decode cX8_refuse 81 = .ok (.goto (-47), 3) := by decide +kernel
theorem dX8_refuse_84 : decode cX8_refuse 84 = .ok (.iload_n 1, 1) := by decide +kernel
theorem dX8_refuse_85 : decode cX8_refuse 85 = .ok (.ifCond .ne 7, 3) := by decide +kernel
theorem dX8_refuse_88 : decode cX8_refuse 88 = .ok (.iload_n 3, 1) := by decide +kernel
theorem dX8_refuse_89 : decode cX8_refuse 89 = .ok (.goto 4, 3) := by decide +kernel
theorem dX8_refuse_92 : decode cX8_refuse 92 = .ok (.iload_n 2, 1) := by decide +kernel
theorem dX8_refuse_93 : decode cX8_refuse 93 = .ok (.ireturn, 1) := by decide +kernel
theorem dX8_coin_0 : decode cX8_coin 0 = .ok (.aload_n 0, 1) := by decide +kernel
theorem dX8_coin_1 : decode cX8_coin 1 = .ok (.getfield 10, 3) := by decide +kernel
theorem dX8_coin_4 : decode cX8_coin 4 = .ok (.iload_n 1, 1) := by decide +kernel
theorem dX8_coin_5 : decode cX8_coin 5 = .ok (.invokevirtual 106, 3) := by decide +kernel
theorem dX8_coin_8 : decode cX8_coin 8 = .ok (.ifCond .ne 6, 3) := by decide +kernel
theorem dX8_coin_11 : decode cX8_coin 11 = .ok (.ldc 98, 2) := by decide +kernel
theorem dX8_coin_13 : decode cX8_coin 13 = .ok (.ireturn, 1) := by decide +kernel
theorem dX8_coin_14 : decode cX8_coin 14 = .ok (.aload_n 0, 1) := by decide +kernel
theorem dX8_coin_15 : decode cX8_coin 15 = .ok (.aload_n 0, 1) := by decide +kernel
theorem dX8_coin_16 : decode cX8_coin 16 = .ok (.invokevirtual 134, 3) := by decide +kernel
theorem dX8_coin_19 : decode cX8_coin 19 = .ok (.iconst (-1), 1) := by decide +kernel
theorem dX8_coin_20 : decode cX8_coin 20 = .ok (.invokevirtual 152, 3) := by decide +kernel
theorem dX8_coin_23 : decode cX8_coin 23 = .ok (.aload_n 0, 1) := by decide +kernel
theorem dX8_coin_24 : decode cX8_coin 24 = .ok (.getfield 37, 3) := by decide +kernel
theorem dX8_coin_27 : decode cX8_coin 27 = .ok (.getfield 159, 3) := by decide +kernel
theorem dX8_coin_30 : decode cX8_coin 30 = .ok (.istore_n 2, 1) := by decide +kernel
theorem dX8_coin_31 : decode cX8_coin 31 = .ok (.aload_n 0, 1) := by decide +kernel
theorem dX8_coin_32 : decode cX8_coin 32 = .ok (.getfield 37, 3) := by decide +kernel
theorem dX8_coin_35 : decode cX8_coin 35 = .ok (.aload_n 0, 1) := by decide +kernel
theorem dX8_coin_36 : decode cX8_coin 36 = .ok (.invokevirtual 134, 3) := by decide +kernel
theorem dX8_coin_39 : decode cX8_coin 39 = .ok (.invokevirtual 136, 3) := by decide +kernel
theorem dX8_coin_42 : decode cX8_coin 42 = .ok (.aload_n 0, 1) := by decide +kernel
theorem dX8_coin_43 : decode cX8_coin 43 = .ok (.getfield 37, 3) := by decide +kernel
theorem dX8_coin_46 : decode cX8_coin 46 = .ok (.iload_n 1, 1) := by decide +kernel
theorem dX8_coin_47 : decode cX8_coin 47 = .ok (.invokevirtual 169, 3) := by decide +kernel
theorem dX8_coin_50 : decode cX8_coin 50 = .ok (.aload_n 0, 1) := by decide +kernel
theorem dX8_coin_51 : decode cX8_coin 51 = .ok (.getfield 37, 3) := by decide +kernel
theorem dX8_coin_54 : decode cX8_coin 54 = .ok (.invokevirtual 172, 3) := by decide +kernel
theorem dX8_coin_57 : decode cX8_coin 57 = .ok (.iload_n 2, 1) := by decide +kernel
theorem dX8_coin_58 : decode cX8_coin 58 = .ok (.aload_n 0, 1) := by decide +kernel
theorem dX8_coin_59 : decode cX8_coin 59 = .ok (.getfield 37, 3) := by decide +kernel
theorem dX8_coin_62 : decode cX8_coin 62 = .ok (.getfield 159, 3) := by decide +kernel
theorem dX8_coin_65 : decode cX8_coin 65 = .ok (.isub, 1) := by decide +kernel
theorem dX8_coin_66 : decode cX8_coin 66 = .ok (.ireturn, 1) := by decide +kernel
theorem dX8_harm_0 : decode cX8_harm 0 = .ok (.aload_n 0, 1) := by decide +kernel
theorem dX8_harm_1 : decode cX8_harm 1 = .ok (.getfield 10, 3) := by decide +kernel
theorem dX8_harm_4 : decode cX8_harm 4 = .ok (.iload_n 1, 1) := by decide +kernel
theorem dX8_harm_5 : decode cX8_harm 5 = .ok (.invokevirtual 106, 3) := by decide +kernel
theorem dX8_harm_8 : decode cX8_harm 8 = .ok (.ifCond .ne 6, 3) := by decide +kernel
theorem dX8_harm_11 : decode cX8_harm 11 = .ok (.ldc 98, 2) := by decide +kernel
theorem dX8_harm_13 : decode cX8_harm 13 = .ok (.ireturn, 1) := by decide +kernel
theorem dX8_harm_14 : decode cX8_harm 14 = .ok (.aload_n 0, 1) := by decide +kernel
theorem dX8_harm_15 : decode cX8_harm 15 = .ok (.aload_n 0, 1) := by decide +kernel
theorem dX8_harm_16 : decode cX8_harm 16 = .ok (.invokevirtual 134, 3) := by decide +kernel
theorem dX8_harm_19 : decode cX8_harm 19 = .ok (.iconst (-1), 1) := by decide +kernel
theorem dX8_harm_20 : decode cX8_harm 20 = .ok (.invokevirtual 152, 3) := by decide +kernel
theorem dX8_harm_23 : decode cX8_harm 23 = .ok (.aload_n 0, 1) := by decide +kernel
theorem dX8_harm_24 : decode cX8_harm 24 = .ok (.getfield 37, 3) := by decide +kernel
theorem dX8_harm_27 : decode cX8_harm 27 = .ok (.getfield 175, 3) := by decide +kernel
theorem dX8_harm_30 : decode cX8_harm 30 = .ok (.istore_n 2, 1) := by decide +kernel
theorem dX8_harm_31 : decode cX8_harm 31 = .ok (.aload_n 0, 1) := by decide +kernel
theorem dX8_harm_32 : decode cX8_harm 32 = .ok (.aload_n 0, 1) := by decide +kernel
theorem dX8_harm_33 : decode cX8_harm 33 = .ok (.invokevirtual 134, 3) := by decide +kernel
theorem dX8_harm_36 : decode cX8_harm 36 = .ok (.iload_n 1, 1) := by decide +kernel
theorem dX8_harm_37 : decode cX8_harm 37 = .ok (.invokevirtual 152, 3) := by decide +kernel
theorem dX8_harm_40 : decode cX8_harm 40 = .ok (.iload_n 2, 1) := by decide +kernel
theorem dX8_harm_41 : decode cX8_harm 41 = .ok (.aload_n 0, 1) := by decide +kernel
theorem dX8_harm_42 : decode cX8_harm 42 = .ok (.getfield 37, 3) := by decide +kernel
theorem dX8_harm_45 : decode cX8_harm 45 = .ok (.getfield 175, 3) := by decide +kernel
theorem dX8_harm_48 : decode cX8_harm 48 = .ok (.isub, 1) := by decide +kernel
theorem dX8_harm_49 : decode cX8_harm 49 = .ok (.ireturn, 1) := by decide +kernel
theorem dX8_judge_0 : decode cX8_judge 0 = .ok (.iload_n 1, 1) := by decide +kernel
theorem dX8_judge_1 : decode cX8_judge 1 = .ok (.invokestatic 178, 3) := by decide +kernel
theorem dX8_judge_4 : decode cX8_judge 4 = .ok (.ifCond .ne 6, 3) := by decide +kernel
theorem dX8_judge_7 : decode cX8_judge 7 = .ok (.bipush (-2), 2) := by decide +kernel
theorem dX8_judge_9 : decode cX8_judge 9 = .ok (.ireturn, 1) := by decide +kernel
theorem dX8_judge_10 : decode cX8_judge 10 = .ok (.aload_n 0, 1) := by decide +kernel
theorem dX8_judge_11 : decode cX8_judge 11 = .ok (.getfield 50, 3) := by decide +kernel
theorem dX8_judge_14 : decode cX8_judge 14 = .ok (.iload_n 1, 1) := by decide +kernel
theorem dX8_judge_15 : decode cX8_judge 15 = .ok (.aaload, 1) := by decide +kernel
theorem dX8_judge_16 : decode cX8_judge 16 = .ok (.getfield 181, 3) := by decide +kernel
theorem dX8_judge_19 : decode cX8_judge 19 = .ok (.iconst (-1), 1) := by decide +kernel
theorem dX8_judge_20 : decode cX8_judge 20 = .ok (.if_icmp .ne 6, 3) := by decide +kernel
theorem dX8_judge_23 : decode cX8_judge 23 = .ok (.bipush (-11), 2) := by decide +kernel
theorem dX8_judge_25 : decode cX8_judge 25 = .ok (.ireturn, 1) := by decide +kernel
theorem dX8_judge_26 : decode cX8_judge 26 = .ok (.aload_n 0, 1) := by decide +kernel
theorem dX8_judge_27 : decode cX8_judge 27 = .ok (.aload_n 0, 1) := by decide +kernel
theorem dX8_judge_28 : decode cX8_judge 28 = .ok (.getfield 50, 3) := by decide +kernel
theorem dX8_judge_31 : decode cX8_judge 31 = .ok (.iload_n 1, 1) := by decide +kernel
theorem dX8_judge_32 : decode cX8_judge 32 = .ok (.aaload, 1) := by decide +kernel
theorem dX8_judge_33 : decode cX8_judge 33 = .ok (.aload_n 0, 1) := by decide +kernel
theorem dX8_judge_34 : decode cX8_judge 34 = .ok (.invokevirtual 134, 3) := by decide +kernel
theorem dX8_judge_37 : decode cX8_judge 37 = .ok (.invokevirtual 184, 3) := by decide +kernel
theorem dX8_judge_40 : decode cX8_judge 40 = .ok (.ireturn, 1) := by decide +kernel
theorem dX8_which_0 : decode cX8_which 0 = .ok (.iload_n 1, 1) := by decide +kernel
theorem dX8_which_1 : decode cX8_which 1 = .ok (.invokestatic 178, 3) := by decide +kernel
theorem dX8_which_4 : decode cX8_which 4 = .ok (.ifCond .ne 6, 3) := by decide +kernel
theorem dX8_which_7 : decode cX8_which 7 = .ok (.bipush (-2), 2) := by decide +kernel
theorem dX8_which_9 : decode cX8_which 9 = .ok (.ireturn, 1) := by decide +kernel
theorem dX8_which_10 : decode cX8_which 10 = .ok (.aload_n 0, 1) := by decide +kernel
theorem dX8_which_11 : decode cX8_which 11 = .ok (.getfield 50, 3) := by decide +kernel
theorem dX8_which_14 : decode cX8_which 14 = .ok (.iload_n 1, 1) := by decide +kernel
theorem dX8_which_15 : decode cX8_which 15 = .ok (.aaload, 1) := by decide +kernel
theorem dX8_which_16 : decode cX8_which 16 = .ok (.getfield 181, 3) := by decide +kernel
theorem dX8_which_19 : decode cX8_which 19 = .ok (.iconst (-1), 1) := by decide +kernel
theorem dX8_which_20 : decode cX8_which 20 = .ok (.if_icmp .ne 6, 3) := by decide +kernel
theorem dX8_which_23 : decode cX8_which 23 = .ok (.bipush (-11), 2) := by decide +kernel
theorem dX8_which_25 : decode cX8_which 25 = .ok (.ireturn, 1) := by decide +kernel
theorem dX8_which_26 : decode cX8_which 26 = .ok (.iconst 0, 1) := by decide +kernel
theorem dX8_which_27 : decode cX8_which 27 = .ok (.istore_n 2, 1) := by decide +kernel
theorem dX8_which_28 : decode cX8_which 28 = .ok (.iconst 0, 1) := by decide +kernel
theorem dX8_which_29 : decode cX8_which 29 = .ok (.istore_n 3, 1) := by decide +kernel
theorem dX8_which_30 : decode cX8_which 30 = .ok (.iload_n 3, 1) := by decide +kernel
theorem dX8_which_31 : decode cX8_which 31 = .ok (.aload_n 0, 1) := by decide +kernel
theorem dX8_which_32 : decode cX8_which 32 = .ok (.getfield 78, 3) := by decide +kernel
theorem dX8_which_35 : decode cX8_which 35 = .ok (.if_icmp .ge 35, 3) := by decide +kernel
theorem dX8_which_38 : decode cX8_which 38 = .ok (.aload_n 0, 1) := by decide +kernel
theorem dX8_which_39 : decode cX8_which 39 = .ok (.aload_n 0, 1) := by decide +kernel
theorem dX8_which_40 : decode cX8_which 40 = .ok (.getfield 50, 3) := by decide +kernel
theorem dX8_which_43 : decode cX8_which 43 = .ok (.iload_n 1, 1) := by decide +kernel
theorem dX8_which_44 : decode cX8_which 44 = .ok (.aaload, 1) := by decide +kernel
theorem dX8_which_45 : decode cX8_which 45 = .ok (.aload_n 0, 1) := by decide +kernel
theorem dX8_which_46 : decode cX8_which 46 = .ok (.getfield 28, 3) := by decide +kernel
theorem dX8_which_49 : decode cX8_which 49 = .ok (.iload_n 3, 1) := by decide +kernel
theorem dX8_which_50 : decode cX8_which 50 = .ok (.aaload, 1) := by decide +kernel
theorem dX8_which_51 : decode cX8_which 51 = .ok (.invokevirtual 184, 3) := by decide +kernel
theorem dX8_which_54 : decode cX8_which 54 = .ok (.iconst (-1), 1) := by decide +kernel
theorem dX8_which_55 : decode cX8_which 55 = .ok (.if_icmp .ne 9, 3) := by decide +kernel
theorem dX8_which_58 : decode cX8_which 58 = .ok (.iload_n 2, 1) := by decide +kernel
theorem dX8_which_59 : decode cX8_which 59 = .ok (.iconst 1, 1) := by decide +kernel
theorem dX8_which_60 : decode cX8_which 60 = .ok (.iload_n 3, 1) := by decide +kernel
theorem dX8_which_61 : decode cX8_which 61 = .ok (.ishl, 1) := by decide +kernel
theorem dX8_which_62 : decode cX8_which 62 = .ok (.ior, 1) := by decide +kernel
theorem dX8_which_63 : decode cX8_which 63 = .ok (.istore_n 2, 1) := by decide +kernel
theorem dX8_which_64 : decode cX8_which 64 = .ok (.iinc 3 1, 3) := by decide +kernel
theorem dX8_which_67 : decode cX8_which 67 = .ok (.goto (-37), 3) := by decide +kernel
theorem dX8_which_70 : decode cX8_which 70 = .ok (.iload_n 2, 1) := by decide +kernel
theorem dX8_which_71 : decode cX8_which 71 = .ok (.ireturn, 1) := by decide +kernel
theorem dX8_behind_0 : decode cX8_behind 0 = .ok (.aload_n 0, 1) := by decide +kernel
theorem dX8_behind_1 : decode cX8_behind 1 = .ok (.aload_n 0, 1) := by decide +kernel
theorem dX8_behind_2 : decode cX8_behind 2 = .ok (.invokevirtual 134, 3) := by decide +kernel
theorem dX8_behind_5 : decode cX8_behind 5 = .ok (.iconst (-1), 1) := by decide +kernel
theorem dX8_behind_6 : decode cX8_behind 6 = .ok (.invokevirtual 152, 3) := by decide +kernel
theorem dX8_behind_9 : decode cX8_behind 9 = .ok (.iconst 0, 1) := by decide +kernel
theorem dX8_behind_10 : decode cX8_behind 10 = .ok (.istore_n 1, 1) := by decide +kernel
theorem dX8_behind_11 : decode cX8_behind 11 = .ok (.iconst 0, 1) := by decide +kernel
theorem dX8_behind_12 : decode cX8_behind 12 = .ok (.istore_n 2, 1) := by decide +kernel
theorem dX8_behind_13 : decode cX8_behind 13 = .ok (.iconst 0, 1) := by decide +kernel
theorem dX8_behind_14 : decode cX8_behind 14 = .ok (.istore_n 3, 1) := by decide +kernel
theorem dX8_behind_15 : decode cX8_behind 15 = .ok (.iload_n 3, 1) := by decide +kernel
theorem dX8_behind_16 : decode cX8_behind 16 = .ok (.aload_n 0, 1) := by decide +kernel
theorem dX8_behind_17 : decode cX8_behind 17 = .ok (.getfield 10, 3) := by decide +kernel
theorem dX8_behind_20 : decode cX8_behind 20 = .ok (.getfield 166, 3) := by decide +kernel
theorem dX8_behind_23 : decode cX8_behind 23 = .ok (.if_icmp .ge 48, 3) := by decide +kernel
theorem dX8_behind_26 : decode cX8_behind 26 = .ok (.iconst 1, 1) := by decide +kernel
theorem dX8_behind_27 : decode cX8_behind 27 = .ok (.aload_n 0, 1) := by decide +kernel
theorem dX8_behind_28 : decode cX8_behind 28 = .ok (.getfield 10, 3) := by decide +kernel
theorem dX8_behind_31 : decode cX8_behind 31 = .ok (.getfield 109, 3) := by decide +kernel
theorem dX8_behind_34 : decode cX8_behind 34 = .ok (.iload_n 3, 1) := by decide +kernel
theorem dX8_behind_35 : decode cX8_behind 35 = .ok (.aaload, 1) := by decide +kernel
theorem dX8_behind_36 : decode cX8_behind 36 = .ok (.getfield 188, 3) := by decide +kernel
theorem dX8_behind_39 : decode cX8_behind 39 = .ok (.ishl, 1) := by decide +kernel
theorem dX8_behind_40 : decode cX8_behind 40 = .ok (.istore 4, 2) := by decide +kernel
theorem dX8_behind_42 : decode cX8_behind 42 = .ok (.iload_n 1, 1) := by decide +kernel
theorem dX8_behind_43 : decode cX8_behind 43 = .ok (.iload 4, 2) := by decide +kernel
theorem dX8_behind_45 : decode cX8_behind 45 = .ok (.ior, 1) := by decide +kernel
theorem dX8_behind_46 : decode cX8_behind 46 = .ok (.istore_n 1, 1) := by decide +kernel
theorem dX8_behind_47 : decode cX8_behind 47 = .ok (.aload_n 0, 1) := by decide +kernel
theorem dX8_behind_48 : decode cX8_behind 48 = .ok (.getfield 37, 3) := by decide +kernel
theorem dX8_behind_51 : decode cX8_behind 51 = .ok (.getfield 162, 3) := by decide +kernel
theorem dX8_behind_54 : decode cX8_behind 54 = .ok (.iload_n 3, 1) := by decide +kernel
theorem dX8_behind_55 : decode cX8_behind 55 = .ok (.iaload, 1) := by decide +kernel
theorem dX8_behind_56 : decode cX8_behind 56 = .ok (.iconst (-1), 1) := by decide +kernel
theorem dX8_behind_57 : decode cX8_behind 57 = .ok (.if_icmp .eq 8, 3) := by decide +kernel
theorem dX8_behind_60 : decode cX8_behind 60 = .ok (.iload_n 2, 1) := by decide +kernel
theorem dX8_behind_61 : decode cX8_behind 61 = .ok (.iload 4, 2) := by decide +kernel
theorem dX8_behind_63 : decode cX8_behind 63 = .ok (.ior, 1) := by decide +kernel
theorem dX8_behind_64 : decode cX8_behind 64 = .ok (.istore_n 2, 1) := by decide +kernel
theorem dX8_behind_65 : decode cX8_behind 65 = .ok (.iinc 3 1, 3) := by decide +kernel
theorem dX8_behind_68 : decode cX8_behind 68 = .ok (.goto (-53), 3) := by decide +kernel
theorem dX8_behind_71 : decode cX8_behind 71 = .ok (.iload_n 1, 1) := by decide +kernel
theorem dX8_behind_72 : decode cX8_behind 72 = .ok (.iload_n 2, 1) := by decide +kernel
theorem dX8_behind_73 : decode cX8_behind 73 = .ok (.iconst (-1), 1) := by decide +kernel
theorem dX8_behind_74 : decode cX8_behind 74 = .ok (.ixor, 1) := by decide +kernel
theorem dX8_behind_75 : decode cX8_behind 75 = .ok (.iand, 1) := by decide +kernel
theorem dX8_behind_76 : decode cX8_behind 76 = .ok (.ireturn, 1) := by decide +kernel
theorem dX8_drawn_0 : decode cX8_drawn 0 = .ok (.aload_n 0, 1) := by decide +kernel
theorem dX8_drawn_1 : decode cX8_drawn 1 = .ok (.getfield 37, 3) := by decide +kernel
theorem dX8_drawn_4 : decode cX8_drawn 4 = .ok (.aload_n 0, 1) := by decide +kernel
theorem dX8_drawn_5 : decode cX8_drawn 5 = .ok (.invokevirtual 134, 3) := by decide +kernel
theorem dX8_drawn_8 : decode cX8_drawn 8 = .ok (.invokevirtual 136, 3) := by decide +kernel
theorem dX8_drawn_11 : decode cX8_drawn 11 = .ok (.aload_n 0, 1) := by decide +kernel
theorem dX8_drawn_12 : decode cX8_drawn 12 = .ok (.getfield 37, 3) := by decide +kernel
theorem dX8_drawn_15 : decode cX8_drawn 15 = .ok (.iload_n 1, 1) := by decide +kernel
theorem dX8_drawn_16 : decode cX8_drawn 16 = .ok (.invokevirtual 191, 3) := by decide +kernel
theorem dX8_drawn_19 : decode cX8_drawn 19 = .ok (.aload_n 0, 1) := by decide +kernel
theorem dX8_drawn_20 : decode cX8_drawn 20 = .ok (.getfield 37, 3) := by decide +kernel
theorem dX8_drawn_23 : decode cX8_drawn 23 = .ok (.getfield 159, 3) := by decide +kernel
theorem dX8_drawn_26 : decode cX8_drawn 26 = .ok (.ireturn, 1) := by decide +kernel
theorem dX8_chance_0 : decode cX8_chance 0 = .ok (.iload_n 2, 1) := by decide +kernel
theorem dX8_chance_1 : decode cX8_chance 1 = .ok (.iconst 1, 1) := by decide +kernel
theorem dX8_chance_2 : decode cX8_chance 2 = .ok (.if_icmp .lt 18, 3) := by decide +kernel
theorem dX8_chance_5 : decode cX8_chance 5 = .ok (.iload_n 2, 1) := by decide +kernel
theorem dX8_chance_6 : decode cX8_chance 6 = .ok (.bipush 20, 2) := by decide +kernel
theorem dX8_chance_8 : decode cX8_chance 8 = .ok (.if_icmp .gt 12, 3) := by decide +kernel
theorem dX8_chance_11 : decode cX8_chance 11 = .ok (.iload_n 3, 1) := by decide +kernel
theorem dX8_chance_12 : decode cX8_chance 12 = .ok (.ifCond .lt 8, 3) := by decide +kernel
theorem dX8_chance_15 : decode cX8_chance 15 = .ok (.iload_n 3, 1) := by decide +kernel
theorem dX8_chance_16 : decode cX8_chance 16 = .ok (.iconst 1, 1) := by decide +kernel
theorem dX8_chance_17 : decode cX8_chance 17 = .ok (.if_icmp .le 7, 3) := by decide +kernel
theorem dX8_chance_20 : decode cX8_chance 20 = .ok (.ldc2_w 194, 3) := by decide +kernel
theorem dX8_chance_23 : decode cX8_chance 23 = .ok (.lreturn, 1) := by decide +kernel
theorem dX8_chance_24 : decode cX8_chance 24 = .ok (.iconst 0, 1) := by decide +kernel
theorem dX8_chance_25 : decode cX8_chance 25 = .ok (.istore 4, 2) := by decide +kernel
theorem dX8_chance_27 : decode cX8_chance 27 = .ok (.iconst 0, 1) := by decide +kernel
theorem dX8_chance_28 : decode cX8_chance 28 = .ok (.istore 5, 2) := by decide +kernel
theorem dX8_chance_30 : decode cX8_chance 30 = .ok (.iload 5, 2) := by decide +kernel
theorem dX8_chance_32 : decode cX8_chance 32 = .ok (.iload_n 2, 1) := by decide +kernel
theorem dX8_chance_33 : decode cX8_chance 33 = .ok (.if_icmp .ge 44, 3) := by decide +kernel
theorem dX8_chance_36 : decode cX8_chance 36 = .ok (.aload_n 0, 1) := by decide +kernel
theorem dX8_chance_37 : decode cX8_chance 37 = .ok (.getfield 37, 3) := by decide +kernel
theorem dX8_chance_40 : decode cX8_chance 40 = .ok (.aload_n 0, 1) := by decide +kernel
theorem dX8_chance_41 : decode cX8_chance 41 = .ok (.invokevirtual 134, 3) := by decide +kernel
theorem dX8_chance_44 : decode cX8_chance 44 = .ok (.invokevirtual 136, 3) := by decide +kernel
theorem dX8_chance_47 : decode cX8_chance 47 = .ok (.aload_n 0, 1) := by decide +kernel
theorem dX8_chance_48 : decode cX8_chance 48 = .ok (.getfield 37, 3) := by decide +kernel
theorem dX8_chance_51 : decode cX8_chance 51 = .ok (.iload_n 1, 1) := by decide +kernel
theorem dX8_chance_52 : decode cX8_chance 52 = .ok (.iload 5, 2) := by decide +kernel
theorem dX8_chance_54 : decode cX8_chance 54 = .ok (.iadd, 1) := by decide +kernel
theorem dX8_chance_55 : decode cX8_chance 55 = .ok (.invokevirtual 191, 3) := by decide +kernel
theorem dX8_chance_58 : decode cX8_chance 58 = .ok (.aload_n 0, 1) := by decide +kernel
theorem dX8_chance_59 : decode cX8_chance 59 = .ok (.getfield 37, 3) := by decide +kernel
theorem dX8_chance_62 : decode cX8_chance 62 = .ok (.getfield 175, 3) := by decide +kernel
theorem dX8_chance_65 : decode cX8_chance 65 = .ok (.ifCond .ne 6, 3) := by decide +kernel
theorem dX8_chance_68 : decode cX8_chance 68 = .ok (.iinc 4 1, 3) := by decide +kernel
theorem dX8_chance_71 : decode cX8_chance 71 = .ok (.iinc 5 1, 3) := by decide +kernel
theorem dX8_chance_74 : decode cX8_chance 74 = .ok (.goto (-44), 3) := by decide +kernel
theorem dX8_chance_77 : decode cX8_chance 77 = .ok (.iload 4, 2) := by decide +kernel
theorem dX8_chance_79 : decode cX8_chance 79 = .ok (.iload_n 2, 1) := by decide +kernel
theorem dX8_chance_80 : decode cX8_chance 80 = .ok (.invokestatic 196, 3) := by decide +kernel
theorem dX8_chance_83 : decode cX8_chance 83 = .ok (.istore 5, 2) := by decide +kernel
theorem dX8_chance_85 : decode cX8_chance 85 = .ok (.iload_n 3, 1) := by decide +kernel
theorem dX8_chance_86 : decode cX8_chance 86 = .ok (.ifCond .ne 12, 3) := by decide +kernel
theorem dX8_chance_89 : decode cX8_chance 89 = .ok (.iload 4, 2) := by decide +kernel
theorem dX8_chance_91 : decode cX8_chance 91 = .ok (.iload 5, 2) := by decide +kernel
theorem dX8_chance_93 : decode cX8_chance 93 = .ok (.idiv, 1) := by decide +kernel
theorem dX8_chance_94 : decode cX8_chance 94 = .ok (.i2l, 1) := by decide +kernel
theorem dX8_chance_95 : decode cX8_chance 95 = .ok (.goto 8, 3) := by decide +kernel
theorem dX8_chance_98 : decode cX8_chance 98 = .ok (.iload_n 2, 1) := by decide +kernel
theorem dX8_chance_99 : decode cX8_chance 99 = .ok (.iload 5, 2) := by decide +kernel
theorem dX8_chance_101 : decode cX8_chance 101 = .ok (.idiv, 1) := by decide +kernel
theorem dX8_chance_102 : decode cX8_chance 102 = .ok (.i2l, 1) := by decide +kernel
theorem dX8_chance_103 : decode cX8_chance 103 = .ok (.lreturn, 1) := by decide +kernel
theorem dX8_image_0 : decode cX8_image 0 = .ok (.aload_n 0, 1) := by decide +kernel
theorem dX8_image_1 : decode cX8_image 1 = .ok (.getfield 16, 3) := by decide +kernel
theorem dX8_image_4 : decode cX8_image 4 = .ok (.aload_n 0, 1) := by decide +kernel
theorem dX8_image_5 : decode cX8_image 5 = .ok (.getfield 10, 3) := by decide +kernel
theorem dX8_image_8 : decode cX8_image 8 = .ok (.invokevirtual 199, 3) := by decide +kernel
theorem dX8_image_11 : decode cX8_image 11 = .ok (.aload_n 0, 1) := by decide +kernel
theorem dX8_image_12 : decode cX8_image 12 = .ok (.iconst 1, 1) := by decide +kernel
theorem dX8_image_13 : decode cX8_image 13 = .ok (.putfield 202, 3) := by decide +kernel
theorem dX8_image_16 : decode cX8_image 16 = .ok (.aload_n 0, 1) := by decide +kernel
theorem dX8_image_17 : decode cX8_image 17 = .ok (.getfield 16, 3) := by decide +kernel
theorem dX8_image_20 : decode cX8_image 20 = .ok (.getfield 166, 3) := by decide +kernel
theorem dX8_image_23 : decode cX8_image 23 = .ok (.ireturn, 1) := by decide +kernel
theorem dX8_back_0 : decode cX8_back 0 = .ok (.aload_n 0, 1) := by decide +kernel
theorem dX8_back_1 : decode cX8_back 1 = .ok (.getfield 202, 3) := by decide +kernel
theorem dX8_back_4 : decode cX8_back 4 = .ok (.ifCond .ne 6, 3) := by decide +kernel
theorem dX8_back_7 : decode cX8_back 7 = .ok (.bipush (-3), 2) := by decide +kernel
theorem dX8_back_9 : decode cX8_back 9 = .ok (.ireturn, 1) := by decide +kernel
theorem dX8_back_10 : decode cX8_back 10 = .ok (.aload_n 0, 1) := by decide +kernel
theorem dX8_back_11 : decode cX8_back 11 = .ok (.getfield 10, 3) := by decide +kernel
theorem dX8_back_14 : decode cX8_back 14 = .ok (.aload_n 0, 1) := by decide +kernel
theorem dX8_back_15 : decode cX8_back 15 = .ok (.getfield 16, 3) := by decide +kernel
theorem dX8_back_18 : decode cX8_back 18 = .ok (.invokevirtual 199, 3) := by decide +kernel
theorem dX8_back_21 : decode cX8_back 21 = .ok (.aload_n 0, 1) := by decide +kernel
theorem dX8_back_22 : decode cX8_back 22 = .ok (.getfield 10, 3) := by decide +kernel
theorem dX8_back_25 : decode cX8_back 25 = .ok (.getfield 166, 3) := by decide +kernel
theorem dX8_back_28 : decode cX8_back 28 = .ok (.ireturn, 1) := by decide +kernel
theorem dX8_count_0 : decode cX8_count 0 = .ok (.iload_n 1, 1) := by decide +kernel
theorem dX8_count_1 : decode cX8_count 1 = .ok (.tableswitch 99 0 6 #[43, 51, 59, 70, 78, 83, 91], 43) := by decide +kernel
theorem dX8_count_44 : decode cX8_count 44 = .ok (.aload_n 0, 1) := by decide +kernel
theorem dX8_count_45 : decode cX8_count 45 = .ok (.getfield 10, 3) := by decide +kernel
theorem dX8_count_48 : decode cX8_count 48 = .ok (.getfield 206, 3) := by decide +kernel
theorem dX8_count_51 : decode cX8_count 51 = .ok (.ireturn, 1) := by decide +kernel
theorem dX8_count_52 : decode cX8_count 52 = .ok (.aload_n 0, 1) := by decide +kernel
theorem dX8_count_53 : decode cX8_count 53 = .ok (.getfield 10, 3) := by decide +kernel
theorem dX8_count_56 : decode cX8_count 56 = .ok (.getfield 166, 3) := by decide +kernel
theorem dX8_count_59 : decode cX8_count 59 = .ok (.ireturn, 1) := by decide +kernel
theorem dX8_count_60 : decode cX8_count 60 = .ok (.aload_n 0, 1) := by decide +kernel
theorem dX8_count_61 : decode cX8_count 61 = .ok (.getfield 10, 3) := by decide +kernel
theorem dX8_count_64 : decode cX8_count 64 = .ok (.getfield 209, 3) := by decide +kernel
theorem dX8_count_67 : decode cX8_count 67 = .ok (.bipush 99, 2) := by decide +kernel
theorem dX8_count_69 : decode cX8_count 69 = .ok (.iadd, 1) := by decide +kernel
theorem dX8_count_70 : decode cX8_count 70 = .ok (.ireturn, 1) := by decide +kernel
theorem dX8_count_71 : decode cX8_count 71 = .ok (.aload_n 0, 1) := by decide +kernel
theorem dX8_count_72 : decode cX8_count 72 = .ok (.getfield 10, 3) := by decide +kernel
theorem dX8_count_75 : decode cX8_count 75 = .ok (.getfield 210, 3) := by decide +kernel
theorem dX8_count_78 : decode cX8_count 78 = .ok (.ireturn, 1) := by decide +kernel
theorem dX8_count_79 : decode cX8_count 79 = .ok (.aload_n 0, 1) := by decide +kernel
theorem dX8_count_80 : decode cX8_count 80 = .ok (.getfield 78, 3) := by decide +kernel
theorem dX8_count_83 : decode cX8_count 83 = .ok (.ireturn, 1) := by decide +kernel
theorem dX8_count_84 : decode cX8_count 84 = .ok (.aload_n 0, 1) := by decide +kernel
theorem dX8_count_85 : decode cX8_count 85 = .ok (.getfield 22, 3) := by decide +kernel
theorem dX8_count_88 : decode cX8_count 88 = .ok (.getfield 118, 3) := by decide +kernel
theorem dX8_count_91 : decode cX8_count 91 = .ok (.ireturn, 1) := by decide +kernel
theorem dX8_count_92 : decode cX8_count 92 = .ok (.aload_n 0, 1) := by decide +kernel
theorem dX8_count_93 : decode cX8_count 93 = .ok (.getfield 10, 3) := by decide +kernel
theorem dX8_count_96 : decode cX8_count 96 = .ok (.getfield 124, 3) := by decide +kernel
theorem dX8_count_99 : decode cX8_count 99 = .ok (.ireturn, 1) := by decide +kernel
theorem dX8_count_100 : decode cX8_count 100 = .ok (.bipush (-2), 2) := by decide +kernel
theorem dX8_count_102 : decode cX8_count 102 = .ok (.ireturn, 1) := by decide +kernel
theorem dX8_sheet_0 : decode cX8_sheet 0 = .ok (.iload_n 1, 1) := by decide +kernel
theorem dX8_sheet_1 : decode cX8_sheet 1 = .ok (.invokestatic 178, 3) := by decide +kernel
theorem dX8_sheet_4 : decode cX8_sheet 4 = .ok (.ifCond .eq 13, 3) := by decide +kernel
theorem dX8_sheet_7 : decode cX8_sheet 7 = .ok (.iload_n 2, 1) := by decide +kernel
theorem dX8_sheet_8 : decode cX8_sheet 8 = .ok (.iconst (-1), 1) := by decide +kernel
theorem dX8_sheet_9 : decode cX8_sheet 9 = .ok (.if_icmp .lt 8, 3) := by decide +kernel
theorem dX8_sheet_12 : decode cX8_sheet 12 = .ok (.iload_n 2, 1) := by decide +kernel
theorem dX8_sheet_13 : decode cX8_sheet 13 = .ok (.iconst 2, 1) := by decide +kernel
theorem dX8_sheet_14 : decode cX8_sheet 14 = .ok (.if_icmp .le 6, 3) := by decide +kernel
theorem dX8_sheet_17 : decode cX8_sheet 17 = .ok (.bipush (-2), 2) := by decide +kernel
theorem dX8_sheet_19 : decode cX8_sheet 19 = .ok (.ireturn, 1) := by decide +kernel
theorem dX8_sheet_20 : decode cX8_sheet 20 = .ok (.iload_n 2, 1) := by decide +kernel
theorem dX8_sheet_21 : decode cX8_sheet 21 = .ok (.iconst (-1), 1) := by decide +kernel
theorem dX8_sheet_22 : decode cX8_sheet 22 = .ok (.if_icmp .ne 16, 3) := by decide +kernel
theorem dX8_sheet_25 : decode cX8_sheet 25 = .ok (.aload_n 0, 1) := by decide +kernel
theorem dX8_sheet_26 : decode cX8_sheet 26 = .ok (.getfield 50, 3) := by decide +kernel
theorem dX8_sheet_29 : decode cX8_sheet 29 = .ok (.iload_n 1, 1) := by decide +kernel
theorem dX8_sheet_30 : decode cX8_sheet 30 = .ok (.aaload, 1) := by decide +kernel
theorem dX8_sheet_31 : decode cX8_sheet 31 = .ok (.iconst (-1), 1) := by decide +kernel
theorem dX8_sheet_32 : decode cX8_sheet 32 = .ok (.iconst 0, 1) := by decide +kernel
theorem dX8_sheet_33 : decode cX8_sheet 33 = .ok (.invokevirtual 213, 3) := by decide +kernel
theorem dX8_sheet_36 : decode cX8_sheet 36 = .ok (.iconst 1, 1) := by decide +kernel
theorem dX8_sheet_37 : decode cX8_sheet 37 = .ok (.ireturn, 1) := by decide +kernel
theorem dX8_sheet_38 : decode cX8_sheet 38 = .ok (.iload_n 3, 1) := by decide +kernel
theorem dX8_sheet_39 : decode cX8_sheet 39 = .ok (.bipush 40, 2) := by decide +kernel
theorem dX8_sheet_41 : decode cX8_sheet 41 = .ok (.if_icmp .le 6, 3) := by decide +kernel
theorem dX8_sheet_44 : decode cX8_sheet 44 = .ok (.bipush (-2), 2) := by decide +kernel
theorem dX8_sheet_46 : decode cX8_sheet 46 = .ok (.ireturn, 1) := by decide +kernel
theorem dX8_sheet_47 : decode cX8_sheet 47 = .ok (.iload_n 3, 1) := by decide +kernel
theorem dX8_sheet_48 : decode cX8_sheet 48 = .ok (.ifCond .ge 6, 3) := by decide +kernel
theorem dX8_sheet_51 : decode cX8_sheet 51 = .ok (.bipush (-14), 2) := by decide +kernel
theorem dX8_sheet_53 : decode cX8_sheet 53 = .ok (.ireturn, 1) := by decide +kernel
theorem dX8_sheet_54 : decode cX8_sheet 54 = .ok (.aload_n 0, 1) := by decide +kernel
theorem dX8_sheet_55 : decode cX8_sheet 55 = .ok (.getfield 50, 3) := by decide +kernel
theorem dX8_sheet_58 : decode cX8_sheet 58 = .ok (.iload_n 1, 1) := by decide +kernel
theorem dX8_sheet_59 : decode cX8_sheet 59 = .ok (.aaload, 1) := by decide +kernel
theorem dX8_sheet_60 : decode cX8_sheet 60 = .ok (.iload_n 2, 1) := by decide +kernel
theorem dX8_sheet_61 : decode cX8_sheet 61 = .ok (.iload_n 3, 1) := by decide +kernel
theorem dX8_sheet_62 : decode cX8_sheet 62 = .ok (.invokevirtual 213, 3) := by decide +kernel
theorem dX8_sheet_65 : decode cX8_sheet 65 = .ok (.iconst 1, 1) := by decide +kernel
theorem dX8_sheet_66 : decode cX8_sheet 66 = .ok (.ireturn, 1) := by decide +kernel
theorem dX8_cell_0 : decode cX8_cell 0 = .ok (.iload_n 1, 1) := by decide +kernel
theorem dX8_cell_1 : decode cX8_cell 1 = .ok (.invokestatic 178, 3) := by decide +kernel
theorem dX8_cell_4 : decode cX8_cell 4 = .ok (.ifCond .ne 6, 3) := by decide +kernel
theorem dX8_cell_7 : decode cX8_cell 7 = .ok (.bipush (-2), 2) := by decide +kernel
theorem dX8_cell_9 : decode cX8_cell 9 = .ok (.ireturn, 1) := by decide +kernel
theorem dX8_cell_10 : decode cX8_cell 10 = .ok (.aload_n 0, 1) := by decide +kernel
theorem dX8_cell_11 : decode cX8_cell 11 = .ok (.getfield 50, 3) := by decide +kernel
theorem dX8_cell_14 : decode cX8_cell 14 = .ok (.iload_n 1, 1) := by decide +kernel
theorem dX8_cell_15 : decode cX8_cell 15 = .ok (.aaload, 1) := by decide +kernel
theorem dX8_cell_16 : decode cX8_cell 16 = .ok (.astore 4, 2) := by decide +kernel
theorem dX8_cell_18 : decode cX8_cell 18 = .ok (.aload 4, 2) := by decide +kernel
theorem dX8_cell_20 : decode cX8_cell 20 = .ok (.getfield 181, 3) := by decide +kernel
theorem dX8_cell_23 : decode cX8_cell 23 = .ok (.iconst (-1), 1) := by decide +kernel
theorem dX8_cell_24 : decode cX8_cell 24 = .ok (.if_icmp .ne 6, 3) := by decide +kernel
theorem dX8_cell_27 : decode cX8_cell 27 = .ok (.bipush (-11), 2) := by decide +kernel
theorem dX8_cell_29 : decode cX8_cell 29 = .ok (.ireturn, 1) := by decide +kernel
theorem dX8_cell_30 : decode cX8_cell 30 = .ok (.aload 4, 2) := by decide +kernel
theorem dX8_cell_32 : decode cX8_cell 32 = .ok (.iload_n 2, 1) := by decide +kernel
theorem dX8_cell_33 : decode cX8_cell 33 = .ok (.iconst 1, 1) := by decide +kernel
theorem dX8_cell_34 : decode cX8_cell 34 = .ok (.invokevirtual 217, 3) := by decide +kernel
theorem dX8_cell_37 : decode cX8_cell 37 = .ok (.ifCond .ne 6, 3) := by decide +kernel
theorem dX8_cell_40 : decode cX8_cell 40 = .ok (.bipush (-12), 2) := by decide +kernel
theorem dX8_cell_42 : decode cX8_cell 42 = .ok (.ireturn, 1) := by decide +kernel
theorem dX8_cell_43 : decode cX8_cell 43 = .ok (.aload 4, 2) := by decide +kernel
theorem dX8_cell_45 : decode cX8_cell 45 = .ok (.iload_n 2, 1) := by decide +kernel
theorem dX8_cell_46 : decode cX8_cell 46 = .ok (.iload_n 3, 1) := by decide +kernel
theorem dX8_cell_47 : decode cX8_cell 47 = .ok (.invokevirtual 220, 3) := by decide +kernel
theorem dX8_cell_50 : decode cX8_cell 50 = .ok (.iconst 1, 1) := by decide +kernel
theorem dX8_cell_51 : decode cX8_cell 51 = .ok (.ireturn, 1) := by decide +kernel
theorem dX8_copy_0 : decode cX8_copy 0 = .ok (.iload_n 1, 1) := by decide +kernel
theorem dX8_copy_1 : decode cX8_copy 1 = .ok (.invokestatic 178, 3) := by decide +kernel
theorem dX8_copy_4 : decode cX8_copy 4 = .ok (.ifCond .eq 10, 3) := by decide +kernel
theorem dX8_copy_7 : decode cX8_copy 7 = .ok (.iload_n 3, 1) := by decide +kernel
theorem dX8_copy_8 : decode cX8_copy 8 = .ok (.invokestatic 178, 3) := by decide +kernel
theorem dX8_copy_11 : decode cX8_copy 11 = .ok (.ifCond .ne 6, 3) := by decide +kernel
theorem dX8_copy_14 : decode cX8_copy 14 = .ok (.bipush (-2), 2) := by decide +kernel
theorem dX8_copy_16 : decode cX8_copy 16 = .ok (.ireturn, 1) := by decide +kernel
theorem dX8_copy_17 : decode cX8_copy 17 = .ok (.aload_n 0, 1) := by decide +kernel
theorem dX8_copy_18 : decode cX8_copy 18 = .ok (.getfield 50, 3) := by decide +kernel
theorem dX8_copy_21 : decode cX8_copy 21 = .ok (.iload_n 1, 1) := by decide +kernel
theorem dX8_copy_22 : decode cX8_copy 22 = .ok (.aaload, 1) := by decide +kernel
theorem dX8_copy_23 : decode cX8_copy 23 = .ok (.astore 6, 2) := by decide +kernel
theorem dX8_copy_25 : decode cX8_copy 25 = .ok (.aload_n 0, 1) := by decide +kernel
theorem dX8_copy_26 : decode cX8_copy 26 = .ok (.getfield 50, 3) := by decide +kernel
theorem dX8_copy_29 : decode cX8_copy 29 = .ok (.iload_n 3, 1) := by decide +kernel
theorem dX8_copy_30 : decode cX8_copy 30 = .ok (.aaload, 1) := by decide +kernel
theorem dX8_copy_31 : decode cX8_copy 31 = .ok (.astore 7, 2) := by decide +kernel
theorem dX8_copy_33 : decode cX8_copy 33 = .ok (.aload 6, 2) := by decide +kernel
theorem dX8_copy_35 : decode cX8_copy 35 = .ok (.getfield 181, 3) := by decide +kernel
theorem dX8_copy_38 : decode cX8_copy 38 = .ok (.iconst (-1), 1) := by decide +kernel
theorem dX8_copy_39 : decode cX8_copy 39 = .ok (.if_icmp .eq 12, 3) := by decide +kernel
theorem dX8_copy_42 : decode cX8_copy 42 = .ok (.aload 7, 2) := by decide +kernel
theorem dX8_copy_44 : decode cX8_copy 44 = .ok (.getfield 181, 3) := by decide +kernel
theorem dX8_copy_47 : decode cX8_copy 47 = .ok (.iconst (-1), 1) := by decide +kernel
theorem dX8_copy_48 : decode cX8_copy 48 = .ok (.if_icmp .ne 6, 3) := by decide +kernel
theorem dX8_copy_51 : decode cX8_copy 51 = .ok (.bipush (-11), 2) := by decide +kernel
theorem dX8_copy_53 : decode cX8_copy 53 = .ok (.ireturn, 1) := by decide +kernel
theorem dX8_copy_54 : decode cX8_copy 54 = .ok (.aload 6, 2) := by decide +kernel
theorem dX8_copy_56 : decode cX8_copy 56 = .ok (.getfield 181, 3) := by decide +kernel
theorem dX8_copy_59 : decode cX8_copy 59 = .ok (.aload 7, 2) := by decide +kernel
theorem dX8_copy_61 : decode cX8_copy 61 = .ok (.getfield 181, 3) := by decide +kernel
theorem dX8_copy_64 : decode cX8_copy 64 = .ok (.if_icmp .eq 6, 3) := by decide +kernel
theorem dX8_copy_67 : decode cX8_copy 67 = .ok (.bipush (-13), 2) := by decide +kernel
theorem dX8_copy_69 : decode cX8_copy 69 = .ok (.ireturn, 1) := by decide +kernel
theorem dX8_copy_70 : decode cX8_copy 70 = .ok (.aload 6, 2) := by decide +kernel
theorem dX8_copy_72 : decode cX8_copy 72 = .ok (.iload_n 2, 1) := by decide +kernel
theorem dX8_copy_73 : decode cX8_copy 73 = .ok (.iload 5, 2) := by decide +kernel
theorem dX8_copy_75 : decode cX8_copy 75 = .ok (.invokevirtual 217, 3) := by decide +kernel
theorem dX8_copy_78 : decode cX8_copy 78 = .ok (.ifCond .eq 15, 3) := by decide +kernel
theorem dX8_copy_81 : decode cX8_copy 81 = .ok (.aload 7, 2) := by decide +kernel
theorem dX8_copy_83 : decode cX8_copy 83 = .ok (.iload 4, 2) := by decide +kernel
theorem dX8_copy_85 : decode cX8_copy 85 = .ok (.iload 5, 2) := by decide +kernel
theorem dX8_copy_87 : decode cX8_copy 87 = .ok (.invokevirtual 217, 3) := by decide +kernel
theorem dX8_copy_90 : decode cX8_copy 90 = .ok (.ifCond .ne 6, 3) := by decide +kernel
theorem dX8_copy_93 : decode cX8_copy 93 = .ok (.bipush (-12), 2) := by decide +kernel
theorem dX8_copy_95 : decode cX8_copy 95 = .ok (.ireturn, 1) := by decide +kernel
theorem dX8_copy_96 : decode cX8_copy 96 = .ok (.aload 6, 2) := by decide +kernel
theorem dX8_copy_98 : decode cX8_copy 98 = .ok (.getfield 223, 3) := by decide +kernel
theorem dX8_copy_101 : decode cX8_copy 101 = .ok (.iload_n 2, 1) := by decide +kernel
theorem dX8_copy_102 : decode cX8_copy 102 = .ok (.aload 7, 2) := by decide +kernel
theorem dX8_copy_104 : decode cX8_copy 104 = .ok (.getfield 223, 3) := by decide +kernel
theorem dX8_copy_107 : decode cX8_copy 107 = .ok (.iload 4, 2) := by decide +kernel
theorem dX8_copy_109 : decode cX8_copy 109 = .ok (.iload 5, 2) := by decide +kernel
theorem dX8_copy_111 : decode cX8_copy 111 = .ok (.invokestatic 226, 3) := by decide +kernel
theorem dX8_copy_114 : decode cX8_copy 114 = .ok (.iload 5, 2) := by decide +kernel
theorem dX8_copy_116 : decode cX8_copy 116 = .ok (.ireturn, 1) := by decide +kernel
theorem dX8_slips_0 : decode cX8_slips 0 = .ok (.iload_n 1, 1) := by decide +kernel
theorem dX8_slips_1 : decode cX8_slips 1 = .ok (.invokestatic 178, 3) := by decide +kernel
theorem dX8_slips_4 : decode cX8_slips 4 = .ok (.ifCond .eq 24, 3) := by decide +kernel
theorem dX8_slips_7 : decode cX8_slips 7 = .ok (.iload_n 2, 1) := by decide +kernel
theorem dX8_slips_8 : decode cX8_slips 8 = .ok (.ifCond .lt 20, 3) := by decide +kernel
theorem dX8_slips_11 : decode cX8_slips 11 = .ok (.iload_n 2, 1) := by decide +kernel
theorem dX8_slips_12 : decode cX8_slips 12 = .ok (.iconst 2, 1) := by decide +kernel
theorem dX8_slips_13 : decode cX8_slips 13 = .ok (.if_icmp .gt 15, 3) := by decide +kernel
theorem dX8_slips_16 : decode cX8_slips 16 = .ok (.iload 4, 2) := by decide +kernel
theorem dX8_slips_18 : decode cX8_slips 18 = .ok (.ifCond .lt 10, 3) := by decide +kernel
theorem dX8_slips_21 : decode cX8_slips 21 = .ok (.iload 4, 2) := by decide +kernel
theorem dX8_slips_23 : decode cX8_slips 23 = .ok (.bipush 7, 2) := by decide +kernel
theorem dX8_slips_25 : decode cX8_slips 25 = .ok (.if_icmp .le 6, 3) := by decide +kernel
theorem dX8_slips_28 : decode cX8_slips 28 = .ok (.bipush (-2), 2) := by decide +kernel
theorem dX8_slips_30 : decode cX8_slips 30 = .ok (.ireturn, 1) := by decide +kernel
theorem dX8_slips_31 : decode cX8_slips 31 = .ok (.aload_n 0, 1) := by decide +kernel
theorem dX8_slips_32 : decode cX8_slips 32 = .ok (.getfield 50, 3) := by decide +kernel
theorem dX8_slips_35 : decode cX8_slips 35 = .ok (.iload_n 1, 1) := by decide +kernel
theorem dX8_slips_36 : decode cX8_slips 36 = .ok (.aaload, 1) := by decide +kernel
theorem dX8_slips_37 : decode cX8_slips 37 = .ok (.astore 5, 2) := by decide +kernel
theorem dX8_slips_39 : decode cX8_slips 39 = .ok (.aload 5, 2) := by decide +kernel
theorem dX8_slips_41 : decode cX8_slips 41 = .ok (.getfield 181, 3) := by decide +kernel
theorem dX8_slips_44 : decode cX8_slips 44 = .ok (.iconst (-1), 1) := by decide +kernel
theorem dX8_slips_45 : decode cX8_slips 45 = .ok (.if_icmp .eq 15, 3) := by decide +kernel
theorem dX8_slips_48 : decode cX8_slips 48 = .ok (.aload 5, 2) := by decide +kernel
theorem dX8_slips_50 : decode cX8_slips 50 = .ok (.getfield 181, 3) := by decide +kernel
theorem dX8_slips_53 : decode cX8_slips 53 = .ok (.iload_n 2, 1) := by decide +kernel
theorem dX8_slips_54 : decode cX8_slips 54 = .ok (.if_icmp .eq 6, 3) := by decide +kernel
theorem dX8_slips_57 : decode cX8_slips 57 = .ok (.bipush (-13), 2) := by decide +kernel
theorem dX8_slips_59 : decode cX8_slips 59 = .ok (.ireturn, 1) := by decide +kernel
theorem dX8_slips_60 : decode cX8_slips 60 = .ok (.aload 5, 2) := by decide +kernel
theorem dX8_slips_62 : decode cX8_slips 62 = .ok (.getfield 181, 3) := by decide +kernel
theorem dX8_slips_65 : decode cX8_slips 65 = .ok (.iconst (-1), 1) := by decide +kernel
theorem dX8_slips_66 : decode cX8_slips 66 = .ok (.if_icmp .ne 6, 3) := by decide +kernel
theorem dX8_slips_69 : decode cX8_slips 69 = .ok (.bipush (-11), 2) := by decide +kernel
theorem dX8_slips_71 : decode cX8_slips 71 = .ok (.ireturn, 1) := by decide +kernel
theorem dX8_slips_72 : decode cX8_slips 72 = .ok (.iconst 0, 1) := by decide +kernel
theorem dX8_slips_73 : decode cX8_slips 73 = .ok (.istore 6, 2) := by decide +kernel
theorem dX8_slips_75 : decode cX8_slips 75 = .ok (.iconst 0, 1) := by decide +kernel
theorem dX8_slips_76 : decode cX8_slips 76 = .ok (.istore 7, 2) := by decide +kernel
theorem dX8_slips_78 : decode cX8_slips 78 = .ok (.iload 7, 2) := by decide +kernel
theorem dX8_slips_80 : decode cX8_slips 80 = .ok (.iload 4, 2) := by decide +kernel
theorem dX8_slips_82 : decode cX8_slips 82 = .ok (.if_icmp .ge 72, 3) := by decide +kernel
theorem dX8_slips_85 : decode cX8_slips 85 = .ok (.iload_n 3, 1) := by decide +kernel
theorem dX8_slips_86 : decode cX8_slips 86 = .ok (.iconst 3, 1) := by decide +kernel
theorem dX8_slips_87 : decode cX8_slips 87 = .ok (.iload 7, 2) := by decide +kernel
theorem dX8_slips_89 : decode cX8_slips 89 = .ok (.imul, 1) := by decide +kernel
theorem dX8_slips_90 : decode cX8_slips 90 = .ok (.iadd, 1) := by decide +kernel
theorem dX8_slips_91 : decode cX8_slips 91 = .ok (.istore 8, 2) := by decide +kernel
theorem dX8_slips_93 : decode cX8_slips 93 = .ok (.aload 5, 2) := by decide +kernel
theorem dX8_slips_95 : decode cX8_slips 95 = .ok (.iload 8, 2) := by decide +kernel
theorem dX8_slips_97 : decode cX8_slips 97 = .ok (.iconst 3, 1) := by decide +kernel
theorem dX8_slips_98 : decode cX8_slips 98 = .ok (.invokevirtual 217, 3) := by decide +kernel
theorem dX8_slips_101 : decode cX8_slips 101 = .ok (.ifCond .ne 6, 3) := by decide +kernel
theorem dX8_slips_104 : decode cX8_slips 104 = .ok (.bipush (-12), 2) := by decide +kernel
theorem dX8_slips_106 : decode cX8_slips 106 = .ok (.ireturn, 1) := by decide +kernel
theorem dX8_slips_107 : decode cX8_slips 107 = .ok (.aload_n 0, 1) := by decide +kernel
theorem dX8_slips_108 : decode cX8_slips 108 = .ok (.getfield 10, 3) := by decide +kernel
theorem dX8_slips_111 : decode cX8_slips 111 = .ok (.aload 5, 2) := by decide +kernel
theorem dX8_slips_113 : decode cX8_slips 113 = .ok (.getfield 223, 3) := by decide +kernel
theorem dX8_slips_116 : decode cX8_slips 116 = .ok (.iload 8, 2) := by decide +kernel
theorem dX8_slips_118 : decode cX8_slips 118 = .ok (.iaload, 1) := by decide +kernel
theorem dX8_slips_119 : decode cX8_slips 119 = .ok (.aload 5, 2) := by decide +kernel
theorem dX8_slips_121 : decode cX8_slips 121 = .ok (.getfield 223, 3) := by decide +kernel
theorem dX8_slips_124 : decode cX8_slips 124 = .ok (.iload 8, 2) := by decide +kernel
theorem dX8_slips_126 : decode cX8_slips 126 = .ok (.iconst 1, 1) := by decide +kernel
theorem dX8_slips_127 : decode cX8_slips 127 = .ok (.iadd, 1) := by decide +kernel
theorem dX8_slips_128 : decode cX8_slips 128 = .ok (.iaload, 1) := by decide +kernel
theorem dX8_slips_129 : decode cX8_slips 129 = .ok (.aload 5, 2) := by decide +kernel
theorem dX8_slips_131 : decode cX8_slips 131 = .ok (.getfield 223, 3) := by decide +kernel
theorem dX8_slips_134 : decode cX8_slips 134 = .ok (.iload 8, 2) := by decide +kernel
theorem dX8_slips_136 : decode cX8_slips 136 = .ok (.iconst 2, 1) := by decide +kernel
theorem dX8_slips_137 : decode cX8_slips 137 = .ok (.iadd, 1) := by decide +kernel
theorem dX8_slips_138 : decode cX8_slips 138 = .ok (.iaload, 1) := by decide +kernel
theorem dX8_slips_139 : decode cX8_slips 139 = .ok (.invokevirtual 91, 3) := by decide +kernel
theorem dX8_slips_142 : decode cX8_slips 142 = .ok (.ifCond .lt 6, 3) := by decide +kernel
theorem dX8_slips_145 : decode cX8_slips 145 = .ok (.iinc 6 1, 3) := by decide +kernel
theorem dX8_slips_148 : decode cX8_slips 148 = .ok (.iinc 7 1, 3) := by decide +kernel
theorem dX8_slips_151 : decode cX8_slips 151 = .ok (.goto (-73), 3) := by decide +kernel
theorem dX8_slips_154 : decode cX8_slips 154 = .ok (.iload 6, 2) := by decide +kernel
theorem dX8_slips_156 : decode cX8_slips 156 = .ok (.ireturn, 1) := by decide +kernel
theorem dX8_taken_0 : decode cX8_taken 0 = .ok (.iload_n 2, 1) := by decide +kernel
theorem dX8_taken_1 : decode cX8_taken 1 = .ok (.ifCond .lt 8, 3) := by decide +kernel
theorem dX8_taken_4 : decode cX8_taken 4 = .ok (.iload_n 2, 1) := by decide +kernel
theorem dX8_taken_5 : decode cX8_taken 5 = .ok (.iconst 5, 1) := by decide +kernel
theorem dX8_taken_6 : decode cX8_taken 6 = .ok (.if_icmp .le 6, 3) := by decide +kernel
theorem dX8_taken_9 : decode cX8_taken 9 = .ok (.bipush (-2), 2) := by decide +kernel
theorem dX8_taken_11 : decode cX8_taken 11 = .ok (.ireturn, 1) := by decide +kernel
theorem dX8_taken_12 : decode cX8_taken 12 = .ok (.aload_n 0, 1) := by decide +kernel
theorem dX8_taken_13 : decode cX8_taken 13 = .ok (.getfield 10, 3) := by decide +kernel
theorem dX8_taken_16 : decode cX8_taken 16 = .ok (.iload_n 1, 1) := by decide +kernel
theorem dX8_taken_17 : decode cX8_taken 17 = .ok (.invokevirtual 106, 3) := by decide +kernel
theorem dX8_taken_20 : decode cX8_taken 20 = .ok (.ifCond .ne 6, 3) := by decide +kernel
theorem dX8_taken_23 : decode cX8_taken 23 = .ok (.bipush (-11), 2) := by decide +kernel
theorem dX8_taken_25 : decode cX8_taken 25 = .ok (.ireturn, 1) := by decide +kernel
theorem dX8_taken_26 : decode cX8_taken 26 = .ok (.aload_n 0, 1) := by decide +kernel
theorem dX8_taken_27 : decode cX8_taken 27 = .ok (.getfield 10, 3) := by decide +kernel
theorem dX8_taken_30 : decode cX8_taken 30 = .ok (.getfield 109, 3) := by decide +kernel
theorem dX8_taken_33 : decode cX8_taken 33 = .ok (.iload_n 1, 1) := by decide +kernel
theorem dX8_taken_34 : decode cX8_taken 34 = .ok (.aaload, 1) := by decide +kernel
theorem dX8_taken_35 : decode cX8_taken 35 = .ok (.iload_n 2, 1) := by decide +kernel
theorem dX8_taken_36 : decode cX8_taken 36 = .ok (.invokevirtual 232, 3) := by decide +kernel
theorem dX8_taken_39 : decode cX8_taken 39 = .ok (.ifCond .eq 18, 3) := by decide +kernel
theorem dX8_taken_42 : decode cX8_taken 42 = .ok (.aload_n 0, 1) := by decide +kernel
theorem dX8_taken_43 : decode cX8_taken 43 = .ok (.getfield 10, 3) := by decide +kernel
theorem dX8_taken_46 : decode cX8_taken 46 = .ok (.getfield 109, 3) := by decide +kernel
theorem dX8_taken_49 : decode cX8_taken 49 = .ok (.iload_n 1, 1) := by decide +kernel
theorem dX8_taken_50 : decode cX8_taken 50 = .ok (.aaload, 1) := by decide +kernel
theorem dX8_taken_51 : decode cX8_taken 51 = .ok (.getfield 235, 3) := by decide +kernel
theorem dX8_taken_54 : decode cX8_taken 54 = .ok (.goto 5, 3) := by decide +kernel
theorem dX8_taken_57 : decode cX8_taken 57 = .ok (.bipush (-13), 2) := by decide +kernel
theorem dX8_taken_59 : decode cX8_taken 59 = .ok (.ireturn, 1) := by decide +kernel
theorem dX8_rule_0 : decode cX8_rule 0 = .ok (.aload_n 0, 1) := by decide +kernel
theorem dX8_rule_1 : decode cX8_rule 1 = .ok (.getfield 28, 3) := by decide +kernel
theorem dX8_rule_4 : decode cX8_rule 4 = .ok (.aload_n 0, 1) := by decide +kernel
theorem dX8_rule_5 : decode cX8_rule 5 = .ok (.getfield 10, 3) := by decide +kernel
theorem dX8_rule_8 : decode cX8_rule 8 = .ok (.getfield 124, 3) := by decide +kernel
theorem dX8_rule_11 : decode cX8_rule 11 = .ok (.aaload, 1) := by decide +kernel
theorem dX8_rule_12 : decode cX8_rule 12 = .ok (.areturn, 1) := by decide +kernel
theorem dX8_isSheet_0 : decode cX8_isSheet 0 = .ok (.iload_n 0, 1) := by decide +kernel
theorem dX8_isSheet_1 : decode cX8_isSheet 1 = .ok (.ifCond .lt 12, 3) := by decide +kernel
theorem dX8_isSheet_4 : decode cX8_isSheet 4 = .ok (.iload_n 0, 1) := by decide +kernel
theorem dX8_isSheet_5 : decode cX8_isSheet 5 = .ok (.iconst 4, 1) := by decide +kernel
theorem dX8_isSheet_6 : decode cX8_isSheet 6 = .ok (.if_icmp .ge 7, 3) := by decide +kernel
theorem dX8_isSheet_9 : decode cX8_isSheet 9 = .ok (.iconst 1, 1) := by decide +kernel
theorem dX8_isSheet_10 : decode cX8_isSheet 10 = .ok (.goto 4, 3) := by decide +kernel
theorem dX8_isSheet_13 : decode cX8_isSheet 13 = .ok (.iconst 0, 1) := by decide +kernel
theorem dX8_isSheet_14 : decode cX8_isSheet 14 = .ok (.ireturn, 1) := by decide +kernel
theorem dX8_runDesk_0 : decode cX8_runDesk 0 = .ok (.aload_n 0, 1) := by decide +kernel
theorem dX8_runDesk_1 : decode cX8_runDesk 1 = .ok (.getfield 37, 3) := by decide +kernel
theorem dX8_runDesk_4 : decode cX8_runDesk 4 = .ok (.aload_n 1, 1) := by decide +kernel
theorem dX8_runDesk_5 : decode cX8_runDesk 5 = .ok (.invokevirtual 136, 3) := by decide +kernel
theorem dX8_runDesk_8 : decode cX8_runDesk 8 = .ok (.aload_n 0, 1) := by decide +kernel
theorem dX8_runDesk_9 : decode cX8_runDesk 9 = .ok (.getfield 37, 3) := by decide +kernel
theorem dX8_runDesk_12 : decode cX8_runDesk 12 = .ok (.iload_n 2, 1) := by decide +kernel
theorem dX8_runDesk_13 : decode cX8_runDesk 13 = .ok (.invokevirtual 238, 3) := by decide +kernel
theorem dX8_runDesk_16 : decode cX8_runDesk 16 = .ok (.aload_n 0, 1) := by decide +kernel
theorem dX8_runDesk_17 : decode cX8_runDesk 17 = .ok (.getfield 37, 3) := by decide +kernel
theorem dX8_runDesk_20 : decode cX8_runDesk 20 = .ok (.invokevirtual 172, 3) := by decide +kernel
theorem dX8_runDesk_23 : decode cX8_runDesk 23 = .ok (.return_, 1) := by decide +kernel
theorem dX8_judged_0 : decode cX8_judged 0 = .ok (.aload_n 0, 1) := by decide +kernel
theorem dX8_judged_1 : decode cX8_judged 1 = .ok (.aload_n 2, 1) := by decide +kernel
theorem dX8_judged_2 : decode cX8_judged 2 = .ok (.iconst (-1), 1) := by decide +kernel
theorem dX8_judged_3 : decode cX8_judged 3 = .ok (.invokevirtual 152, 3) := by decide +kernel
theorem dX8_judged_6 : decode cX8_judged 6 = .ok (.iconst 0, 1) := by decide +kernel
theorem dX8_judged_7 : decode cX8_judged 7 = .ok (.istore_n 3, 1) := by decide +kernel
theorem dX8_judged_8 : decode cX8_judged 8 = .ok (.iload_n 3, 1) := by decide +kernel
theorem dX8_judged_9 : decode cX8_judged 9 = .ok (.aload_n 1, 1) := by decide +kernel
theorem dX8_judged_10 : decode cX8_judged 10 = .ok (.getfield 241, 3) := by decide +kernel
theorem dX8_judged_13 : decode cX8_judged 13 = .ok (.if_icmp .ge 40, 3) := by decide +kernel
theorem dX8_judged_16 : decode cX8_judged 16 = .ok (.iload_n 3, 1) := by decide +kernel
theorem dX8_judged_17 : decode cX8_judged 17 = .ok (.aload_n 0, 1) := by decide +kernel
theorem dX8_judged_18 : decode cX8_judged 18 = .ok (.getfield 37, 3) := by decide +kernel
theorem dX8_judged_21 : decode cX8_judged 21 = .ok (.getfield 244, 3) := by decide +kernel
theorem dX8_judged_24 : decode cX8_judged 24 = .ok (.if_icmp .ge 21, 3) := by decide +kernel
theorem dX8_judged_27 : decode cX8_judged 27 = .ok (.aload_n 1, 1) := by decide +kernel
theorem dX8_judged_28 : decode cX8_judged 28 = .ok (.getfield 223, 3) := by decide +kernel
theorem dX8_judged_31 : decode cX8_judged 31 = .ok (.iload_n 3, 1) := by decide +kernel
theorem dX8_judged_32 : decode cX8_judged 32 = .ok (.iaload, 1) := by decide +kernel
theorem dX8_judged_33 : decode cX8_judged 33 = .ok (.aload_n 0, 1) := by decide +kernel
theorem dX8_judged_34 : decode cX8_judged 34 = .ok (.getfield 37, 3) := by decide +kernel
theorem dX8_judged_37 : decode cX8_judged 37 = .ok (.getfield 247, 3) := by decide +kernel
theorem dX8_judged_40 : decode cX8_judged 40 = .ok (.iload_n 3, 1) := by decide +kernel
theorem dX8_judged_41 : decode cX8_judged 41 = .ok (.iaload, 1) := by decide +kernel
theorem dX8_judged_42 : decode cX8_judged 42 = .ok (.if_icmp .eq 5, 3) := by decide +kernel
theorem dX8_judged_45 : decode cX8_judged 45 = .ok (.iload_n 3, 1) := by decide +kernel
theorem dX8_judged_46 : decode cX8_judged 46 = .ok (.ireturn, 1) := by decide +kernel
theorem dX8_judged_47 : decode cX8_judged 47 = .ok (.iinc 3 1, 3) := by decide +kernel
theorem dX8_judged_50 : decode cX8_judged 50 = .ok (.goto (-42), 3) := by decide +kernel
theorem dX8_judged_53 : decode cX8_judged 53 = .ok (.iconst (-1), 1) := by decide +kernel
theorem dX8_judged_54 : decode cX8_judged 54 = .ok (.ireturn, 1) := by decide +kernel
theorem dX8_commonDivisor_0 : decode cX8_commonDivisor 0 = .ok (.iload_n 1, 1) := by decide +kernel
theorem dX8_commonDivisor_1 : decode cX8_commonDivisor 1 = .ok (.istore_n 2, 1) := by decide +kernel
theorem dX8_commonDivisor_2 : decode cX8_commonDivisor 2 = .ok (.iload_n 2, 1) := by decide +kernel
theorem dX8_commonDivisor_3 : decode cX8_commonDivisor 3 = .ok (.iconst 1, 1) := by decide +kernel
theorem dX8_commonDivisor_4 : decode cX8_commonDivisor 4 = .ok (.if_icmp .le 23, 3) := by decide +kernel
theorem dX8_commonDivisor_7 : decode cX8_commonDivisor 7 = .ok (.iload_n 0, 1) := by decide +kernel
theorem dX8_commonDivisor_8 : decode cX8_commonDivisor 8 = .ok (.iload_n 2, 1) := by decide +kernel
theorem dX8_commonDivisor_9 : decode cX8_commonDivisor 9 = .ok (.irem, 1) := by decide +kernel
theorem dX8_commonDivisor_10 : decode cX8_commonDivisor 10 = .ok (.ifCond .ne 11, 3) := by decide +kernel
theorem dX8_commonDivisor_13 : decode cX8_commonDivisor 13 = .ok (.iload_n 1, 1) := by decide +kernel
theorem dX8_commonDivisor_14 : decode cX8_commonDivisor 14 = .ok (.iload_n 2, 1) := by decide +kernel
theorem dX8_commonDivisor_15 : decode cX8_commonDivisor 15 = .ok (.irem, 1) := by decide +kernel
theorem dX8_commonDivisor_16 : decode cX8_commonDivisor 16 = .ok (.ifCond .ne 5, 3) := by decide +kernel
theorem dX8_commonDivisor_19 : decode cX8_commonDivisor 19 = .ok (.iload_n 2, 1) := by decide +kernel
theorem dX8_commonDivisor_20 : decode cX8_commonDivisor 20 = .ok (.ireturn, 1) := by decide +kernel
theorem dX8_commonDivisor_21 : decode cX8_commonDivisor 21 = .ok (.iinc 2 (-1), 3) := by decide +kernel
theorem dX8_commonDivisor_24 : decode cX8_commonDivisor 24 = .ok (.goto (-22), 3) := by decide +kernel
theorem dX8_commonDivisor_27 : decode cX8_commonDivisor 27 = .ok (.iconst 1, 1) := by decide +kernel
theorem dX8_commonDivisor_28 : decode cX8_commonDivisor 28 = .ok (.ireturn, 1) := by decide +kernel
theorem dX8_within_0 : decode cX8_within 0 = .ok (.iload_n 1, 1) := by decide +kernel
theorem dX8_within_1 : decode cX8_within 1 = .ok (.iload_n 2, 1) := by decide +kernel
theorem dX8_within_2 : decode cX8_within 2 = .ok (.iload_n 0, 1) := by decide +kernel
theorem dX8_within_3 : decode cX8_within 3 = .ok (.invokestatic 250, 3) := by decide +kernel
theorem dX8_within_6 : decode cX8_within 6 = .ok (.invokestatic 255, 3) := by decide +kernel
theorem dX8_within_9 : decode cX8_within 9 = .ok (.ireturn, 1) := by decide +kernel
