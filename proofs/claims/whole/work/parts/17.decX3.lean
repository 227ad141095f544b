theorem dX3_init_0 : decode cX3_init 0 = .ok (.aload_n 0, 1) := by decide +kernel
theorem dX3_init_1 : decode cX3_init 1 = .ok (.invokespecial 3, 3) := by decide +kernel
theorem dX3_init_4 : decode cX3_init 4 = .ok (.aload_n 0, 1) := by decide +kernel
theorem dX3_init_5 : decode cX3_init 5 = .ok (.sipush 160, 3) := by decide +kernel
theorem dX3_init_8 : decode cX3_init 8 = .ok (.newarray .int, 2) := by decide +kernel
theorem dX3_init_10 : decode cX3_init 10 = .ok (.putfield 9, 3) := by decide +kernel
theorem dX3_init_13 : decode cX3_init 13 = .ok (.aload_n 0, 1) := by decide +kernel
theorem dX3_init_14 : decode cX3_init 14 = .ok (.sipush 160, 3) := by decide +kernel
theorem dX3_init_17 : decode cX3_init 17 = .ok (.newarray .int, 2) := by decide +kernel
theorem dX3_init_19 : decode cX3_init 19 = .ok (.putfield 15, 3) := by decide +kernel
theorem dX3_init_22 : decode cX3_init 22 = .ok (.return_, 1) := by decide +kernel
theorem dX3_add_0 : decode cX3_add 0 = .ok (.aload_n 0, 1) := by decide +kernel
theorem dX3_add_1 : decode cX3_add 1 = .ok (.getfield 18, 3) := by decide +kernel
theorem dX3_add_4 : decode cX3_add 4 = .ok (.sipush 160, 3) := by decide +kernel
theorem dX3_add_7 : decode cX3_add 7 = .ok (.if_icmp .lt 5, 3) := by decide +kernel
theorem dX3_add_10 : decode cX3_add 10 = .ok (.iconst 0, 1) := by decide +kernel
theorem dX3_add_11 : decode cX3_add 11 = .ok (.ireturn, 1) := by decide +kernel
theorem dX3_add_12 : decode cX3_add 12 = .ok (.aload_n 0, 1) := by decide +kernel
theorem dX3_add_13 : decode cX3_add 13 = .ok (.getfield 9, 3) := by decide +kernel
theorem dX3_add_16 : decode cX3_add 16 = .ok (.aload_n 0, 1) := by decide +kernel
theorem dX3_add_17 : decode cX3_add 17 = .ok (.getfield 18, 3) := by decide +kernel
theorem dX3_add_20 : decode cX3_add 20 = .ok (.iload_n 1, 1) := by decide +kernel
theorem dX3_add_21 : decode cX3_add 21 = .ok (.iastore, 1) := by decide +kernel
theorem dX3_add_22 : decode cX3_add 22 = .ok (.aload_n 0, 1) := by decide +kernel
theorem dX3_add_23 : decode cX3_add 23 = .ok (.dup, 1) := by decide +kernel
theorem dX3_add_24 : decode cX3_add 24 = .ok (.getfield 18, 3) := by decide +kernel
theorem dX3_add_27 : decode cX3_add 27 = .ok (.iconst 1, 1) := by decide +kernel
theorem dX3_add_28 : decode cX3_add 28 = .ok (.iadd, 1) := by decide +kernel
theorem dX3_add_29 : decode cX3_add 29 = .ok (.putfield 18, 3) := by decide +kernel
theorem dX3_add_32 : decode cX3_add 32 = .ok (.iconst 1, 1) := by decide +kernel
theorem dX3_add_33 : decode cX3_add 33 = .ok (.ireturn, 1) := by decide +kernel
theorem dX3_readTape_0 : decode cX3_readTape 0 = .ok (.aload_n 0, 1) := by decide +kernel
theorem dX3_readTape_1 : decode cX3_readTape 1 = .ok (.iconst 0, 1) := by decide +kernel
theorem dX3_readTape_2 : decode cX3_readTape 2 = .ok (.putfield 22, 3) := by decide +kernel
theorem dX3_readTape_5 : decode cX3_readTape 5 = .ok (.aload_n 0, 1) := by decide +kernel
theorem dX3_readTape_6 : decode cX3_readTape 6 = .ok (.iconst 0, 1) := by decide +kernel
theorem dX3_readTape_7 : decode cX3_readTape 7 = .ok (.putfield 25, 3) := by decide +kernel
theorem dX3_readTape_10 : decode cX3_readTape 10 = .ok (.aload_n 0, 1) := by decide +kernel
theorem dX3_readTape_11 : decode cX3_readTape 11 = .ok (.iconst (-1), 1) := by decide +kernel
theorem dX3_readTape_12 : decode cX3_readTape 12 = .ok (.putfield 28, 3) := by decide +kernel
theorem dX3_readTape_15 : decode cX3_readTape 15 = .ok (.aload_n 0, 1) := by decide +kernel
theorem dX3_readTape_16 : decode cX3_readTape 16 = .ok (.invokevirtual 31, 3) := by decide +kernel
theorem dX3_readTape_19 : decode cX3_readTape 19 = .ok (.aload_n 0, 1) := by decide +kernel
theorem dX3_readTape_20 : decode cX3_readTape 20 = .ok (.bipush 107, 2) := by decide +kernel
theorem dX3_readTape_22 : decode cX3_readTape 22 = .ok (.invokevirtual 34, 3) := by decide +kernel
theorem dX3_readTape_25 : decode cX3_readTape 25 = .ok (.aload_n 0, 1) := by decide +kernel
theorem dX3_readTape_26 : decode cX3_readTape 26 = .ok (.iconst 0, 1) := by decide +kernel
theorem dX3_readTape_27 : decode cX3_readTape 27 = .ok (.iconst 0, 1) := by decide +kernel
theorem dX3_readTape_28 : decode cX3_readTape 28 = .ok (.invokevirtual 38, 3) := by decide +kernel
theorem dX3_readTape_31 : decode cX3_readTape 31 = .ok (.aload_n 0, 1) := by decide +kernel
theorem dX3_readTape_32 : decode cX3_readTape 32 = .ok (.bipush 59, 2) := by decide +kernel
theorem dX3_readTape_34 : decode cX3_readTape 34 = .ok (.invokevirtual 34, 3) := by decide +kernel
theorem dX3_readTape_37 : decode cX3_readTape 37 = .ok (.aload_n 0, 1) := by decide +kernel
theorem dX3_readTape_38 : decode cX3_readTape 38 = .ok (.aload_n 0, 1) := by decide +kernel
theorem dX3_readTape_39 : decode cX3_readTape 39 = .ok (.getfield 22, 3) := by decide +kernel
theorem dX3_readTape_42 : decode cX3_readTape 42 = .ok (.putfield 42, 3) := by decide +kernel
theorem dX3_readTape_45 : decode cX3_readTape 45 = .ok (.aload_n 0, 1) := by decide +kernel
theorem dX3_readTape_46 : decode cX3_readTape 46 = .ok (.bipush 108, 2) := by decide +kernel
theorem dX3_readTape_48 : decode cX3_readTape 48 = .ok (.invokevirtual 34, 3) := by decide +kernel
theorem dX3_readTape_51 : decode cX3_readTape 51 = .ok (.aload_n 0, 1) := by decide +kernel
theorem dX3_readTape_52 : decode cX3_readTape 52 = .ok (.iconst 0, 1) := by decide +kernel
theorem dX3_readTape_53 : decode cX3_readTape 53 = .ok (.iconst 0, 1) := by decide +kernel
theorem dX3_readTape_54 : decode cX3_readTape 54 = .ok (.invokevirtual 38, 3) := by decide +kernel
theorem dX3_readTape_57 : decode cX3_readTape 57 = .ok (.aload_n 0, 1) := by decide +kernel
theorem dX3_readTape_58 : decode cX3_readTape 58 = .ok (.bipush 59, 2) := by decide +kernel
theorem dX3_readTape_60 : decode cX3_readTape 60 = .ok (.invokevirtual 34, 3) := by decide +kernel
theorem dX3_readTape_63 : decode cX3_readTape 63 = .ok (.aload_n 0, 1) := by decide +kernel
theorem dX3_readTape_64 : decode cX3_readTape 64 = .ok (.aload_n 0, 1) := by decide +kernel
theorem dX3_readTape_65 : decode cX3_readTape 65 = .ok (.getfield 22, 3) := by decide +kernel
theorem dX3_readTape_68 : decode cX3_readTape 68 = .ok (.putfield 45, 3) := by decide +kernel
theorem dX3_readTape_71 : decode cX3_readTape 71 = .ok (.aload_n 0, 1) := by decide +kernel
theorem dX3_readTape_72 : decode cX3_readTape 72 = .ok (.bipush 109, 2) := by decide +kernel
theorem dX3_readTape_74 : decode cX3_readTape 74 = .ok (.invokevirtual 34, 3) := by decide +kernel
theorem dX3_readTape_77 : decode cX3_readTape 77 = .ok (.aload_n 0, 1) := by decide +kernel
theorem dX3_readTape_78 : decode cX3_readTape 78 = .ok (.iconst 0, 1) := by decide +kernel
theorem dX3_readTape_79 : decode cX3_readTape 79 = .ok (.iconst 0, 1) := by decide +kernel
theorem dX3_readTape_80 : decode cX3_readTape 80 = .ok (.invokevirtual 38, 3) := by decide +kernel
theorem dX3_readTape_83 : decode cX3_readTape 83 = .ok (.aload_n 0, 1) := by decide +kernel
theorem dX3_readTape_84 : decode cX3_readTape 84 = .ok (.bipush 59, 2) := by decide +kernel
theorem dX3_readTape_86 : decode cX3_readTape 86 = .ok (.invokevirtual 34, 3) := by decide +kernel
theorem dX3_readTape_89 : decode cX3_readTape 89 = .ok (.aload_n 0, 1) := by decide +kernel
theorem dX3_readTape_90 : decode cX3_readTape 90 = .ok (.getfield 48, 3) := by decide +kernel
theorem dX3_readTape_93 : decode cX3_readTape 93 = .ok (.iconst 1, 1) := by decide +kernel
theorem dX3_readTape_94 : decode cX3_readTape 94 = .ok (.if_icmp .eq 7, 3) := by decide +kernel
theorem dX3_readTape_97 : decode cX3_readTape 97 = .ok (.aload_n 0, 1) := by decide +kernel
theorem dX3_readTape_98 : decode cX3_readTape 98 = .ok (.invokevirtual 51, 3) := by decide +kernel
theorem dX3_readTape_101 : decode cX3_readTape 101 = .ok (.aload_n 0, 1) := by decide +kernel
theorem dX3_readTape_102 : decode cX3_readTape 102 = .ok (.iconst 0, 1) := by decide +kernel
theorem dX3_readTape_103 : decode cX3_readTape 103 = .ok (.putfield 18, 3) := by decide +kernel
theorem dX3_readTape_106 : decode cX3_readTape 106 = .ok (.aload_n 0, 1) := by decide +kernel
theorem dX3_readTape_107 : decode cX3_readTape 107 = .ok (.getfield 28, 3) := by decide +kernel
theorem dX3_readTape_110 : decode cX3_readTape 110 = .ok (.iconst (-1), 1) := by decide +kernel
theorem dX3_readTape_111 : decode cX3_readTape 111 = .ok (.if_icmp .ne 7, 3) := by decide +kernel
theorem dX3_readTape_114 : decode cX3_readTape 114 = .ok (.iconst 1, 1) := by decide +kernel
theorem dX3_readTape_115 : decode cX3_readTape 115 = .ok (.goto 4, 3) := by decide +kernel
theorem dX3_readTape_118 : decode cX3_readTape 118 = .ok (.iconst 0, 1) := by decide +kernel
theorem dX3_readTape_119 : decode cX3_readTape 119 = .ok (.ireturn, 1) := by decide +kernel
theorem dX3_made_0 : decode cX3_made 0 = .ok (.new 54, 3) := by decide +kernel
theorem dX3_made_3 : decode cX3_made 3 = .ok (.dup, 1) := by decide +kernel
theorem dX3_made_4 : decode cX3_made 4 = .ok (.aload_n 0, 1) := by decide +kernel
theorem dX3_made_5 : decode cX3_made 5 = .ok (.getfield 15, 3) := by decide +kernel
theorem dX3_made_8 : decode cX3_made 8 = .ok (.aload_n 0, 1) := by decide +kernel
theorem dX3_made_9 : decode cX3_made 9 = .ok (.getfield 22, 3) := by decide +kernel
theorem dX3_made_12 : decode cX3_made 12 = .ok (.invokestatic 56, 3) := by decide +kernel
theorem dX3_made_15 : decode cX3_made 15 = .ok (.aload_n 0, 1) := by decide +kernel
theorem dX3_made_16 : decode cX3_made 16 = .ok (.getfield 42, 3) := by decide +kernel
theorem dX3_made_19 : decode cX3_made 19 = .ok (.aload_n 0, 1) := by decide +kernel
theorem dX3_made_20 : decode cX3_made 20 = .ok (.getfield 45, 3) := by decide +kernel
theorem dX3_made_23 : decode cX3_made 23 = .ok (.invokespecial 62, 3) := by decide +kernel
theorem dX3_made_26 : decode cX3_made 26 = .ok (.areturn, 1) := by decide +kernel
theorem dX3_pass_0 : decode cX3_pass 0 = .ok (.aload_n 0, 1) := by decide +kernel
theorem dX3_pass_1 : decode cX3_pass 1 = .ok (.getfield 48, 3) := by decide +kernel
theorem dX3_pass_4 : decode cX3_pass 4 = .ok (.iload_n 1, 1) := by decide +kernel
theorem dX3_pass_5 : decode cX3_pass 5 = .ok (.if_icmp .ne 10, 3) := by decide +kernel
theorem dX3_pass_8 : decode cX3_pass 8 = .ok (.aload_n 0, 1) := by decide +kernel
theorem dX3_pass_9 : decode cX3_pass 9 = .ok (.invokevirtual 31, 3) := by decide +kernel
theorem dX3_pass_12 : decode cX3_pass 12 = .ok (.goto 7, 3) := by decide +kernel
theorem dX3_pass_15 : decode cX3_pass 15 = .ok (.aload_n 0, 1) := by decide +kernel
theorem dX3_pass_16 : decode cX3_pass 16 = .ok (.invokevirtual 51, 3) := by decide +kernel
theorem dX3_pass_19 : decode cX3_pass 19 = .ok (.return_, 1) := by decide +kernel
theorem dX3_fail_0 : decode cX3_fail 0 = .ok (.aload_n 0, 1) := by decide +kernel
theorem dX3_fail_1 : decode cX3_fail 1 = .ok (.getfield 28, 3) := by decide +kernel
theorem dX3_fail_4 : decode cX3_fail 4 = .ok (.iconst (-1), 1) := by decide +kernel
theorem dX3_fail_5 : decode cX3_fail 5 = .ok (.if_icmp .ne 11, 3) := by decide +kernel
theorem dX3_fail_8 : decode cX3_fail 8 = .ok (.aload_n 0, 1) := by decide +kernel
theorem dX3_fail_9 : decode cX3_fail 9 = .ok (.aload_n 0, 1) := by decide +kernel
theorem dX3_fail_10 : decode cX3_fail 10 = .ok (.getfield 65, 3) := by decide +kernel
theorem dX3_fail_13 : decode cX3_fail 13 = .ok (.putfield 28, 3) := by decide +kernel
theorem dX3_fail_16 : decode cX3_fail 16 = .ok (.aload_n 0, 1) := by decide +kernel
theorem dX3_fail_17 : decode cX3_fail 17 = .ok (.iconst 2, 1) := by decide +kernel
theorem dX3_fail_18 : decode cX3_fail 18 = .ok (.putfield 48, 3) := by decide +kernel
theorem dX3_fail_21 : decode cX3_fail 21 = .ok (.return_, 1) := by decide +kernel
theorem dX3_readLevel_0 : decode cX3_readLevel 0 = .ok (.iload_n 1, 1) := by decide +kernel
theorem dX3_readLevel_1 : decode cX3_readLevel 1 = .ok (.iconst 4, 1) := by decide +kernel
theorem dX3_readLevel_2 : decode cX3_readLevel 2 = .ok (.if_icmp .le 9, 3) := by decide +kernel
theorem dX3_readLevel_5 : decode cX3_readLevel 5 = .ok (.aload_n 0, 1) := by decide +kernel
theorem dX3_readLevel_6 : decode cX3_readLevel 6 = .ok (.iload_n 2, 1) := by decide +kernel
theorem dX3_readLevel_7 : decode cX3_readLevel 7 = .ok (.invokevirtual 68, 3) := by decide +kernel
theorem dX3_readLevel_10 : decode cX3_readLevel 10 = .ok (.return_, 1) := by decide +kernel
theorem dX3_readLevel_11 : decode cX3_readLevel 11 = .ok (.iload_n 1, 1) := by decide +kernel
theorem dX3_readLevel_12 : decode cX3_readLevel 12 = .ok (.iconst 2, 1) := by decide +kernel
theorem dX3_readLevel_13 : decode cX3_readLevel 13 = .ok (.if_icmp .ne 18, 3) := by decide +kernel
theorem dX3_readLevel_16 : decode cX3_readLevel 16 = .ok (.aload_n 0, 1) := by decide +kernel
theorem dX3_readLevel_17 : decode cX3_readLevel 17 = .ok (.getfield 48, 3) := by decide +kernel
theorem dX3_readLevel_20 : decode cX3_readLevel 20 = .ok (.bipush 112, 2) := by decide +kernel
theorem dX3_readLevel_22 : decode cX3_readLevel 22 = .ok (.if_icmp .ne 9, 3) := by decide +kernel
theorem dX3_readLevel_25 : decode cX3_readLevel 25 = .ok (.aload_n 0, 1) := by decide +kernel
theorem dX3_readLevel_26 : decode cX3_readLevel 26 = .ok (.iload_n 2, 1) := by decide +kernel
theorem dX3_readLevel_27 : decode cX3_readLevel 27 = .ok (.invokevirtual 71, 3) := by decide +kernel
theorem dX3_readLevel_30 : decode cX3_readLevel 30 = .ok (.return_, 1) := by decide +kernel
theorem dX3_readLevel_31 : decode cX3_readLevel 31 = .ok (.aload_n 0, 1) := by decide +kernel
theorem dX3_readLevel_32 : decode cX3_readLevel 32 = .ok (.iload_n 1, 1) := by decide +kernel
theorem dX3_readLevel_33 : decode cX3_readLevel 33 = .ok (.iconst 1, 1) := by decide +kernel
theorem dX3_readLevel_34 : decode cX3_readLevel 34 = .ok (.iadd, 1) := by decide +kernel
theorem dX3_readLevel_35 : decode cX3_readLevel 35 = .ok (.iload_n 2, 1) := by decide +kernel
theorem dX3_readLevel_36 : decode cX3_readLevel 36 = .ok (.invokevirtual 38, 3) := by decide +kernel
theorem dX3_readLevel_39 : decode cX3_readLevel 39 = .ok (.iload_n 1, 1) := by decide +kernel
theorem dX3_readLevel_40 : decode cX3_readLevel 40 = .ok (.iconst 2, 1) := by decide +kernel
theorem dX3_readLevel_41 : decode cX3_readLevel 41 = .ok (.if_icmp .ne 7, 3) := by decide +kernel
theorem dX3_readLevel_44 : decode cX3_readLevel 44 = .ok (.iconst 1, 1) := by decide +kernel
theorem dX3_readLevel_45 : decode cX3_readLevel 45 = .ok (.goto 6, 3) := by decide +kernel
theorem dX3_readLevel_48 : decode cX3_readLevel 48 = .ok (.sipush 160, 3) := by decide +kernel
theorem dX3_readLevel_51 : decode cX3_readLevel 51 = .ok (.istore_n 3, 1) := by decide +kernel
theorem dX3_readLevel_52 : decode cX3_readLevel 52 = .ok (.iconst 0, 1) := by decide +kernel
theorem dX3_readLevel_53 : decode cX3_readLevel 53 = .ok (.istore 4, 2) := by decide +kernel
theorem dX3_readLevel_55 : decode cX3_readLevel 55 = .ok (.iload 4, 2) := by decide +kernel
theorem dX3_readLevel_57 : decode cX3_readLevel 57 = .ok (.iload_n 3, 1) := by decide +kernel
theorem dX3_readLevel_58 : decode cX3_readLevel 58 = .ok (.if_icmp .ge 42, 3) := by decide +kernel
theorem dX3_readLevel_61 : decode cX3_readLevel 61 = .ok (.aload_n 0, 1) := by decide +kernel
theorem dX3_readLevel_62 : decode cX3_readLevel 62 = .ok (.iload_n 1, 1) := by decide +kernel
theorem dX3_readLevel_63 : decode cX3_readLevel 63 = .ok (.invokevirtual 74, 3) := by decide +kernel
theorem dX3_readLevel_66 : decode cX3_readLevel 66 = .ok (.ifCond .eq 34, 3) := by decide +kernel
theorem dX3_readLevel_69 : decode cX3_readLevel 69 = .ok (.aload_n 0, 1) := by decide +kernel
theorem dX3_readLevel_70 : decode cX3_readLevel 70 = .ok (.getfield 48, 3) := by decide +kernel
theorem dX3_readLevel_73 : decode cX3_readLevel 73 = .ok (.istore 5, 2) := by decide +kernel
theorem dX3_readLevel_75 : decode cX3_readLevel 75 = .ok (.aload_n 0, 1) := by decide +kernel
theorem dX3_readLevel_76 : decode cX3_readLevel 76 = .ok (.invokevirtual 31, 3) := by decide +kernel
theorem dX3_readLevel_79 : decode cX3_readLevel 79 = .ok (.aload_n 0, 1) := by decide +kernel
theorem dX3_readLevel_80 : decode cX3_readLevel 80 = .ok (.iload_n 1, 1) := by decide +kernel
theorem dX3_readLevel_81 : decode cX3_readLevel 81 = .ok (.iconst 1, 1) := by decide +kernel
theorem dX3_readLevel_82 : decode cX3_readLevel 82 = .ok (.iadd, 1) := by decide +kernel
theorem dX3_readLevel_83 : decode cX3_readLevel 83 = .ok (.iload_n 2, 1) := by decide +kernel
theorem dX3_readLevel_84 : decode cX3_readLevel 84 = .ok (.invokevirtual 38, 3) := by decide +kernel
theorem dX3_readLevel_87 : decode cX3_readLevel 87 = .ok (.aload_n 0, 1) := by decide +kernel
theorem dX3_readLevel_88 : decode cX3_readLevel 88 = .ok (.iload 5, 2) := by decide +kernel
theorem dX3_readLevel_90 : decode cX3_readLevel 90 = .ok (.ineg, 1) := by decide +kernel
theorem dX3_readLevel_91 : decode cX3_readLevel 91 = .ok (.invokevirtual 78, 3) := by decide +kernel
theorem dX3_readLevel_94 : decode cX3_readLevel 94 = .ok (.iinc 4 1, 3) := by decide +kernel
theorem dX3_readLevel_97 : decode cX3_readLevel 97 = .ok (.goto (-42), 3) := by decide +kernel
theorem dX3_readLevel_100 : decode cX3_readLevel 100 = .ok (.return_, 1) := by decide +kernel
theorem dX3_joins_0 : decode cX3_joins 0 = .ok (.iload_n 1, 1) := by decide +kernel
theorem dX3_joins_1 : decode cX3_joins 1 = .ok (.tableswitch 109 0 3 #[31, 46, 61, 85], 31) := by decide +kernel
theorem dX3_joins_32 : decode cX3_joins 32 = .ok (.aload_n 0, 1) := by decide +kernel
theorem dX3_joins_33 : decode cX3_joins 33 = .ok (.getfield 48, 3) := by decide +kernel
theorem dX3_joins_36 : decode cX3_joins 36 = .ok (.bipush 110, 2) := by decide +kernel
theorem dX3_joins_38 : decode cX3_joins 38 = .ok (.if_icmp .ne 7, 3) := by decide +kernel
theorem dX3_joins_41 : decode cX3_joins 41 = .ok (.iconst 1, 1) := by decide +kernel
theorem dX3_joins_42 : decode cX3_joins 42 = .ok (.goto 4, 3) := by decide +kernel
theorem dX3_joins_45 : decode cX3_joins 45 = .ok (.iconst 0, 1) := by decide +kernel
theorem dX3_joins_46 : decode cX3_joins 46 = .ok (.ireturn, 1) := by decide +kernel
theorem dX3_joins_47 : decode cX3_joins 47 = .ok (.aload_n 0, 1) := by decide +kernel
theorem dX3_joins_48 : decode cX3_joins 48 = .ok (.getfield 48, 3) := by decide +kernel
theorem dX3_joins_51 : decode cX3_joins 51 = .ok (.bipush 111, 2) := by decide +kernel
theorem dX3_joins_53 : decode cX3_joins 53 = .ok (.if_icmp .ne 7, 3) := by decide +kernel
theorem dX3_joins_56 : decode cX3_joins 56 = .ok (.iconst 1, 1) := by decide +kernel
theorem dX3_joins_57 : decode cX3_joins 57 = .ok (.goto 4, 3) := by decide +kernel
theorem dX3_joins_60 : decode cX3_joins 60 = .ok (.iconst 0, 1) := by decide +kernel
theorem dX3_joins_61 : decode cX3_joins 61 = .ok (.ireturn, 1) := by decide +kernel
theorem dX3_joins_62 : decode cX3_joins 62 = .ok (.aload_n 0, 1) := by decide +kernel
theorem dX3_joins_63 : decode cX3_joins 63 = .ok (.getfield 48, 3) := by decide +kernel
theorem dX3_joins_66 : decode cX3_joins 66 = .ok (.bipush 60, 2) := by decide +kernel
theorem dX3_joins_68 : decode cX3_joins 68 = .ok (.if_icmp .eq 12, 3) := by decide +kernel
theorem dX3_joins_71 : decode cX3_joins 71 = .ok (.aload_n 0, 1) := by decide +kernel
theorem dX3_joins_72 : decode cX3_joins 72 = .ok (.getfield 48, 3) := by decide +kernel
theorem dX3_joins_75 : decode cX3_joins 75 = .ok (.bipush 61, 2) := by decide +kernel
theorem dX3_joins_77 : decode cX3_joins 77 = .ok (.if_icmp .ne 7, 3) := by decide +kernel
theorem dX3_joins_80 : decode cX3_joins 80 = .ok (.iconst 1, 1) := by decide +kernel
theorem dX3_joins_81 : decode cX3_joins 81 = .ok (.goto 4, 3) := by decide +kernel
theorem dX3_joins_84 : decode cX3_joins 84 = .ok (.iconst 0, 1) := by decide +kernel
theorem dX3_joins_85 : decode cX3_joins 85 = .ok (.ireturn, 1) := by decide +kernel
theorem dX3_joins_86 : decode cX3_joins 86 = .ok (.aload_n 0, 1) := by decide +kernel
theorem dX3_joins_87 : decode cX3_joins 87 = .ok (.getfield 48, 3) := by decide +kernel
theorem dX3_joins_90 : decode cX3_joins 90 = .ok (.bipush 43, 2) := by decide +kernel
theorem dX3_joins_92 : decode cX3_joins 92 = .ok (.if_icmp .eq 12, 3) := by decide +kernel
theorem dX3_joins_95 : decode cX3_joins 95 = .ok (.aload_n 0, 1) := by decide +kernel
theorem dX3_joins_96 : decode cX3_joins 96 = .ok (.getfield 48, 3) := by decide +kernel
theorem dX3_joins_99 : decode cX3_joins 99 = .ok (.bipush 45, 2) := by decide +kernel
theorem dX3_joins_101 : decode cX3_joins 101 = .ok (.if_icmp .ne 7, 3) := by decide +kernel
theorem dX3_joins_104 : decode cX3_joins 104 = .ok (.iconst 1, 1) := by decide +kernel
theorem dX3_joins_105 : decode cX3_joins 105 = .ok (.goto 4, 3) := by decide +kernel
theorem dX3_joins_108 : decode cX3_joins 108 = .ok (.iconst 0, 1) := by decide +kernel
theorem dX3_joins_109 : decode cX3_joins 109 = .ok (.ireturn, 1) := by decide +kernel
theorem dX3_joins_110 : decode cX3_joins 110 = .ok (.aload_n 0, 1) := by decide +kernel
theorem dX3_joins_111 : decode cX3_joins 111 = .ok (.getfield 48, 3) := by decide +kernel
theorem dX3_joins_114 : decode cX3_joins 114 = .ok (.bipush 42, 2) := by decide +kernel
theorem dX3_joins_116 : decode cX3_joins 116 = .ok (.if_icmp .ne 7, 3) := by decide +kernel
theorem dX3_joins_119 : decode cX3_joins 119 = .ok (.iconst 1, 1) := by decide +kernel
theorem dX3_joins_120 : decode cX3_joins 120 = .ok (.goto 4, 3) := by decide +kernel
theorem dX3_joins_123 : decode cX3_joins 123 = .ok (.iconst 0, 1) := by decide +kernel
theorem dX3_joins_124 : decode cX3_joins 124 = .ok (.ireturn, 1) := by decide +kernel
theorem dX3_readNot_0 : decode cX3_readNot 0 = .ok (.iload_n 1, 1) := by decide +kernel
theorem dX3_readNot_1 : decode cX3_readNot 1 = .ok (.iconst 5, 1) := by decide +kernel
theorem dX3_readNot_2 : decode cX3_readNot 2 = .ok (.if_icmp .lt 8, 3) := by decide +kernel
theorem dX3_readNot_5 : decode cX3_readNot 5 = .ok (.aload_n 0, 1) := by decide +kernel
theorem dX3_readNot_6 : decode cX3_readNot 6 = .ok (.invokevirtual 51, 3) := by decide +kernel
theorem dX3_readNot_9 : decode cX3_readNot 9 = .ok (.return_, 1) := by decide +kernel
theorem dX3_readNot_10 : decode cX3_readNot 10 = .ok (.aload_n 0, 1) := by decide +kernel
theorem dX3_readNot_11 : decode cX3_readNot 11 = .ok (.invokevirtual 31, 3) := by decide +kernel
theorem dX3_readNot_14 : decode cX3_readNot 14 = .ok (.aload_n 0, 1) := by decide +kernel
theorem dX3_readNot_15 : decode cX3_readNot 15 = .ok (.iconst 2, 1) := by decide +kernel
theorem dX3_readNot_16 : decode cX3_readNot 16 = .ok (.iload_n 1, 1) := by decide +kernel
theorem dX3_readNot_17 : decode cX3_readNot 17 = .ok (.iconst 1, 1) := by decide +kernel
theorem dX3_readNot_18 : decode cX3_readNot 18 = .ok (.iadd, 1) := by decide +kernel
theorem dX3_readNot_19 : decode cX3_readNot 19 = .ok (.invokevirtual 38, 3) := by decide +kernel
theorem dX3_readNot_22 : decode cX3_readNot 22 = .ok (.aload_n 0, 1) := by decide +kernel
theorem dX3_readNot_23 : decode cX3_readNot 23 = .ok (.bipush (-112), 2) := by decide +kernel
theorem dX3_readNot_25 : decode cX3_readNot 25 = .ok (.invokevirtual 78, 3) := by decide +kernel
theorem dX3_readNot_28 : decode cX3_readNot 28 = .ok (.return_, 1) := by decide +kernel
theorem dX3_readOne_0 : decode cX3_readOne 0 = .ok (.aload_n 0, 1) := by decide +kernel
theorem dX3_readOne_1 : decode cX3_readOne 1 = .ok (.getfield 48, 3) := by decide +kernel
theorem dX3_readOne_4 : decode cX3_readOne 4 = .ok (.iconst 3, 1) := by decide +kernel
theorem dX3_readOne_5 : decode cX3_readOne 5 = .ok (.if_icmp .ne 18, 3) := by decide +kernel
theorem dX3_readOne_8 : decode cX3_readOne 8 = .ok (.aload_n 0, 1) := by decide +kernel
theorem dX3_readOne_9 : decode cX3_readOne 9 = .ok (.aload_n 0, 1) := by decide +kernel
theorem dX3_readOne_10 : decode cX3_readOne 10 = .ok (.getfield 81, 3) := by decide +kernel
theorem dX3_readOne_13 : decode cX3_readOne 13 = .ok (.invokevirtual 78, 3) := by decide +kernel
theorem dX3_readOne_16 : decode cX3_readOne 16 = .ok (.aload_n 0, 1) := by decide +kernel
theorem dX3_readOne_17 : decode cX3_readOne 17 = .ok (.invokevirtual 31, 3) := by decide +kernel
theorem dX3_readOne_20 : decode cX3_readOne 20 = .ok (.goto 114, 3) := by decide +kernel
theorem dX3_readOne_23 : decode cX3_readOne 23 = .ok (.aload_n 0, 1) := by decide +kernel
theorem dX3_readOne_24 : decode cX3_readOne 24 = .ok (.getfield 48, 3) := by decide +kernel
theorem dX3_readOne_27 : decode cX3_readOne 27 = .ok (.invokestatic 84, 3) := by decide +kernel
theorem dX3_readOne_30 : decode cX3_readOne 30 = .ok (.ifCond .eq 19, 3) := by decide +kernel
theorem dX3_readOne_33 : decode cX3_readOne 33 = .ok (.aload_n 0, 1) := by decide +kernel
theorem dX3_readOne_34 : decode cX3_readOne 34 = .ok (.aload_n 0, 1) := by decide +kernel
theorem dX3_readOne_35 : decode cX3_readOne 35 = .ok (.getfield 48, 3) := by decide +kernel
theorem dX3_readOne_38 : decode cX3_readOne 38 = .ok (.ineg, 1) := by decide +kernel
theorem dX3_readOne_39 : decode cX3_readOne 39 = .ok (.invokevirtual 78, 3) := by decide +kernel
theorem dX3_readOne_42 : decode cX3_readOne 42 = .ok (.aload_n 0, 1) := by decide +kernel
theorem dX3_readOne_43 : decode cX3_readOne 43 = .ok (.invokevirtual 31, 3) := by decide +kernel
theorem dX3_readOne_46 : decode cX3_readOne 46 = .ok (.goto 88, 3) := by decide +kernel
theorem dX3_readOne_49 : decode cX3_readOne 49 = .ok (.aload_n 0, 1) := by decide +kernel
theorem dX3_readOne_50 : decode cX3_readOne 50 = .ok (.getfield 48, 3) := by decide +kernel
theorem dX3_readOne_53 : decode cX3_readOne 53 = .ok (.bipush 45, 2) := by decide +kernel
theorem dX3_readOne_55 : decode cX3_readOne 55 = .ok (.if_icmp .ne 28, 3) := by decide +kernel
theorem dX3_readOne_58 : decode cX3_readOne 58 = .ok (.iload_n 1, 1) := by decide +kernel
theorem dX3_readOne_59 : decode cX3_readOne 59 = .ok (.iconst 5, 1) := by decide +kernel
theorem dX3_readOne_60 : decode cX3_readOne 60 = .ok (.if_icmp .ge 23, 3) := by decide +kernel
theorem dX3_readOne_63 : decode cX3_readOne 63 = .ok (.aload_n 0, 1) := by decide +kernel
theorem dX3_readOne_64 : decode cX3_readOne 64 = .ok (.invokevirtual 31, 3) := by decide +kernel
theorem dX3_readOne_67 : decode cX3_readOne 67 = .ok (.aload_n 0, 1) := by decide +kernel
theorem dX3_readOne_68 : decode cX3_readOne 68 = .ok (.iload_n 1, 1) := by decide +kernel
theorem dX3_readOne_69 : decode cX3_readOne 69 = .ok (.iconst 1, 1) := by decide +kernel
theorem dX3_readOne_70 : decode cX3_readOne 70 = .ok (.iadd, 1) := by decide +kernel
theorem dX3_readOne_71 : decode cX3_readOne 71 = .ok (.invokevirtual 68, 3) := by decide +kernel
theorem dX3_readOne_74 : decode cX3_readOne 74 = .ok (.aload_n 0, 1) := by decide +kernel
theorem dX3_readOne_75 : decode cX3_readOne 75 = .ok (.bipush (-4), 2) := by decide +kernel
theorem dX3_readOne_77 : decode cX3_readOne 77 = .ok (.invokevirtual 78, 3) := by decide +kernel
theorem dX3_readOne_80 : decode cX3_readOne 80 = .ok (.goto 54, 3) := by decide +kernel
theorem dX3_readOne_83 : decode cX3_readOne 83 = .ok (.aload_n 0, 1) := by decide +kernel
theorem dX3_readOne_84 : decode cX3_readOne 84 = .ok (.getfield 48, 3) := by decide +kernel
theorem dX3_readOne_87 : decode cX3_readOne 87 = .ok (.bipush 40, 2) := by decide +kernel
theorem dX3_readOne_89 : decode cX3_readOne 89 = .ok (.if_icmp .ne 41, 3) := by decide +kernel
theorem dX3_readOne_92 : decode cX3_readOne 92 = .ok (.iload_n 1, 1) := by decide +kernel
theorem dX3_readOne_93 : decode cX3_readOne 93 = .ok (.iconst 5, 1) := by decide +kernel
theorem dX3_readOne_94 : decode cX3_readOne 94 = .ok (.if_icmp .ge 36, 3) := by decide +kernel
theorem dX3_readOne_97 : decode cX3_readOne 97 = .ok (.aload_n 0, 1) := by decide +kernel
theorem dX3_readOne_98 : decode cX3_readOne 98 = .ok (.invokevirtual 31, 3) := by decide +kernel
theorem dX3_readOne_101 : decode cX3_readOne 101 = .ok (.aload_n 0, 1) := by decide +kernel
theorem dX3_readOne_102 : decode cX3_readOne 102 = .ok (.iconst 0, 1) := by decide +kernel
theorem dX3_readOne_103 : decode cX3_readOne 103 = .ok (.iload_n 1, 1) := by decide +kernel
theorem dX3_readOne_104 : decode cX3_readOne 104 = .ok (.iconst 1, 1) := by decide +kernel
theorem dX3_readOne_105 : decode cX3_readOne 105 = .ok (.iadd, 1) := by decide +kernel
theorem dX3_readOne_106 : decode cX3_readOne 106 = .ok (.invokevirtual 38, 3) := by decide +kernel
theorem dX3_readOne_109 : decode cX3_readOne 109 = .ok (.aload_n 0, 1) := by decide +kernel
theorem dX3_readOne_110 : decode cX3_readOne 110 = .ok (.getfield 48, 3) := by decide +kernel
theorem dX3_readOne_113 : decode cX3_readOne 113 = .ok (.bipush 41, 2) := by decide +kernel
theorem dX3_readOne_115 : decode cX3_readOne 115 = .ok (.if_icmp .eq 8, 3) := by decide +kernel
theorem dX3_readOne_118 : decode cX3_readOne 118 = .ok (.aload_n 0, 1) := by decide +kernel
theorem dX3_readOne_119 : decode cX3_readOne 119 = .ok (.invokevirtual 51, 3) := by decide +kernel
theorem dX3_readOne_122 : decode cX3_readOne 122 = .ok (.return_, 1) := by decide +kernel
theorem dX3_readOne_123 : decode cX3_readOne 123 = .ok (.aload_n 0, 1) := by decide +kernel
theorem dX3_readOne_124 : decode cX3_readOne 124 = .ok (.invokevirtual 31, 3) := by decide +kernel
theorem dX3_readOne_127 : decode cX3_readOne 127 = .ok (.goto 7, 3) := by decide +kernel
theorem dX3_readOne_130 : decode cX3_readOne 130 = .ok (.aload_n 0, 1) := by decide +kernel
theorem dX3_readOne_131 : decode cX3_readOne 131 = .ok (.invokevirtual 51, 3) := by decide +kernel
theorem dX3_readOne_134 : decode cX3_readOne 134 = .ok (.return_, 1) := by decide +kernel
theorem dX3_isName_0 : decode cX3_isName 0 = .ok (.iload_n 0, 1) := by decide +kernel
theorem dX3_isName_1 : decode cX3_isName 1 = .ok (.bipush 101, 2) := by decide +kernel
theorem dX3_isName_3 : decode cX3_isName 3 = .ok (.if_icmp .lt 13, 3) := by decide +kernel
theorem dX3_isName_6 : decode cX3_isName 6 = .ok (.iload_n 0, 1) := by decide +kernel
theorem dX3_isName_7 : decode cX3_isName 7 = .ok (.bipush 106, 2) := by decide +kernel
theorem dX3_isName_9 : decode cX3_isName 9 = .ok (.if_icmp .gt 7, 3) := by decide +kernel
theorem dX3_isName_12 : decode cX3_isName 12 = .ok (.iconst 1, 1) := by decide +kernel
theorem dX3_isName_13 : decode cX3_isName 13 = .ok (.goto 4, 3) := by decide +kernel
theorem dX3_isName_16 : decode cX3_isName 16 = .ok (.iconst 0, 1) := by decide +kernel
theorem dX3_isName_17 : decode cX3_isName 17 = .ok (.ireturn, 1) := by decide +kernel
theorem dX3_emit_0 : decode cX3_emit 0 = .ok (.aload_n 0, 1) := by decide +kernel
theorem dX3_emit_1 : decode cX3_emit 1 = .ok (.getfield 22, 3) := by decide +kernel
theorem dX3_emit_4 : decode cX3_emit 4 = .ok (.sipush 160, 3) := by decide +kernel
theorem dX3_emit_7 : decode cX3_emit 7 = .ok (.if_icmp .ge 23, 3) := by decide +kernel
theorem dX3_emit_10 : decode cX3_emit 10 = .ok (.aload_n 0, 1) := by decide +kernel
theorem dX3_emit_11 : decode cX3_emit 11 = .ok (.getfield 15, 3) := by decide +kernel
theorem dX3_emit_14 : decode cX3_emit 14 = .ok (.aload_n 0, 1) := by decide +kernel
theorem dX3_emit_15 : decode cX3_emit 15 = .ok (.getfield 22, 3) := by decide +kernel
theorem dX3_emit_18 : decode cX3_emit 18 = .ok (.iload_n 1, 1) := by decide +kernel
theorem dX3_emit_19 : decode cX3_emit 19 = .ok (.iastore, 1) := by decide +kernel
theorem dX3_emit_20 : decode cX3_emit 20 = .ok (.aload_n 0, 1) := by decide +kernel
theorem dX3_emit_21 : decode cX3_emit 21 = .ok (.dup, 1) := by decide +kernel
theorem dX3_emit_22 : decode cX3_emit 22 = .ok (.getfield 22, 3) := by decide +kernel
theorem dX3_emit_25 : decode cX3_emit 25 = .ok (.iconst 1, 1) := by decide +kernel
theorem dX3_emit_26 : decode cX3_emit 26 = .ok (.iadd, 1) := by decide +kernel
theorem dX3_emit_27 : decode cX3_emit 27 = .ok (.putfield 22, 3) := by decide +kernel
theorem dX3_emit_30 : decode cX3_emit 30 = .ok (.return_, 1) := by decide +kernel
theorem dX3_readToken_0 : decode cX3_readToken 0 = .ok (.aload_n 0, 1) := by decide +kernel
theorem dX3_readToken_1 : decode cX3_readToken 1 = .ok (.aload_n 0, 1) := by decide +kernel
theorem dX3_readToken_2 : decode cX3_readToken 2 = .ok (.getfield 25, 3) := by decide +kernel
theorem dX3_readToken_5 : decode cX3_readToken 5 = .ok (.putfield 65, 3) := by decide +kernel
theorem dX3_readToken_8 : decode cX3_readToken 8 = .ok (.aload_n 0, 1) := by decide +kernel
theorem dX3_readToken_9 : decode cX3_readToken 9 = .ok (.getfield 65, 3) := by decide +kernel
theorem dX3_readToken_12 : decode cX3_readToken 12 = .ok (.aload_n 0, 1) := by decide +kernel
theorem dX3_readToken_13 : decode cX3_readToken 13 = .ok (.getfield 18, 3) := by decide +kernel
theorem dX3_readToken_16 : decode cX3_readToken 16 = .ok (.if_icmp .ge 44, 3) := by decide +kernel
theorem dX3_readToken_19 : decode cX3_readToken 19 = .ok (.aload_n 0, 1) := by decide +kernel
theorem dX3_readToken_20 : decode cX3_readToken 20 = .ok (.getfield 9, 3) := by decide +kernel
theorem dX3_readToken_23 : decode cX3_readToken 23 = .ok (.aload_n 0, 1) := by decide +kernel
theorem dX3_readToken_24 : decode cX3_readToken 24 = .ok (.getfield 65, 3) := by decide +kernel
theorem dX3_readToken_27 : decode cX3_readToken 27 = .ok (.iaload, 1) := by decide +kernel
theorem dX3_readToken_28 : decode cX3_readToken 28 = .ok (.bipush 32, 2) := by decide +kernel
theorem dX3_readToken_30 : decode cX3_readToken 30 = .ok (.if_icmp .eq 17, 3) := by decide +kernel
theorem dX3_readToken_33 : decode cX3_readToken 33 = .ok (.aload_n 0, 1) := by decide +kernel
theorem dX3_readToken_34 : decode cX3_readToken 34 = .ok (.getfield 9, 3) := by decide +kernel
theorem dX3_readToken_37 : decode cX3_readToken 37 = .ok (.aload_n 0, 1) := by decide +kernel
theorem dX3_readToken_38 : decode cX3_readToken 38 = .ok (.getfield 65, 3) := by decide +kernel
theorem dX3_readToken_41 : decode cX3_readToken 41 = .ok (.iaload, 1) := by decide +kernel
theorem dX3_readToken_42 : decode cX3_readToken 42 = .ok (.bipush 10, 2) := by decide +kernel
theorem dX3_readToken_44 : decode cX3_readToken 44 = .ok (.if_icmp .ne 16, 3) := by decide +kernel
theorem dX3_readToken_47 : decode cX3_readToken 47 = .ok (.aload_n 0, 1) := by decide +kernel
theorem dX3_readToken_48 : decode cX3_readToken 48 = .ok (.dup, 1) := by decide +kernel
theorem dX3_readToken_49 : decode cX3_readToken 49 = .ok (.getfield 65, 3) := by decide +kernel
theorem dX3_readToken_52 : decode cX3_readToken 52 = .ok (.iconst 1, 1) := by decide +kernel
theorem dX3_readToken_53 : decode cX3_readToken 53 = .ok (.iadd, 1) := by decide +kernel
theorem dX3_readToken_54 : decode cX3_readToken 54 = .ok (.putfield 65, 3) := by decide +kernel
theorem dX3_readToken_57 : decode cX3_readToken 57 = .ok (.goto (-49), 3) := by decide +kernel
theorem dX3_readToken_60 : decode cX3_readToken 60 = .ok (.aload_n 0, 1) := by decide +kernel
theorem dX3_readToken_61 : decode cX3_readToken 61 = .ok (.aload_n 0, 1) := by decide +kernel
theorem dX3_readToken_62 : decode cX3_readToken 62 = .ok (.getfield 65, 3) := by decide +kernel
theorem dX3_readToken_65 : decode cX3_readToken 65 = .ok (.putfield 25, 3) := by decide +kernel
theorem dX3_readToken_68 : decode cX3_readToken 68 = .ok (.aload_n 0, 1) := by decide +kernel
theorem dX3_readToken_69 : decode cX3_readToken 69 = .ok (.getfield 65, 3) := by decide +kernel
theorem dX3_readToken_72 : decode cX3_readToken 72 = .ok (.aload_n 0, 1) := by decide +kernel
theorem dX3_readToken_73 : decode cX3_readToken 73 = .ok (.getfield 18, 3) := by decide +kernel
theorem dX3_readToken_76 : decode cX3_readToken 76 = .ok (.if_icmp .lt 11, 3) := by decide +kernel
theorem dX3_readToken_79 : decode cX3_readToken 79 = .ok (.aload_n 0, 1) := by decide +kernel
theorem dX3_readToken_80 : decode cX3_readToken 80 = .ok (.iconst 1, 1) := by decide +kernel
theorem dX3_readToken_81 : decode cX3_readToken 81 = .ok (.putfield 48, 3) := by decide +kernel
theorem dX3_readToken_84 : decode cX3_readToken 84 = .ok (.goto 92, 3) := by decide +kernel
theorem dX3_readToken_87 : decode cX3_readToken 87 = .ok (.aload_n 0, 1) := by decide +kernel
theorem dX3_readToken_88 : decode cX3_readToken 88 = .ok (.getfield 9, 3) := by decide +kernel
theorem dX3_readToken_91 : decode cX3_readToken 91 = .ok (.aload_n 0, 1) := by decide +kernel
theorem dX3_readToken_92 : decode cX3_readToken 92 = .ok (.getfield 65, 3) := by decide +kernel
theorem dX3_readToken_95 : decode cX3_readToken 95 = .ok (.iaload, 1) := by decide +kernel
theorem dX3_readToken_96 : decode cX3_readToken 96 = .ok (.invokestatic 87, 3) := by decide +kernel
theorem dX3_readToken_99 : decode cX3_readToken 99 = .ok (.ifCond .eq 10, 3) := by decide +kernel
theorem dX3_readToken_102 : decode cX3_readToken 102 = .ok (.aload_n 0, 1) := by decide +kernel
theorem dX3_readToken_103 : decode cX3_readToken 103 = .ok (.invokevirtual 90, 3) := by decide +kernel
theorem dX3_readToken_106 : decode cX3_readToken 106 = .ok (.goto 70, 3) := by decide +kernel
theorem dX3_readToken_109 : decode cX3_readToken 109 = .ok (.aload_n 0, 1) := by decide +kernel
theorem dX3_readToken_110 : decode cX3_readToken 110 = .ok (.getfield 9, 3) := by decide +kernel
theorem dX3_readToken_113 : decode cX3_readToken 113 = .ok (.aload_n 0, 1) := by decide +kernel
theorem dX3_readToken_114 : decode cX3_readToken 114 = .ok (.getfield 65, 3) := by decide +kernel
theorem dX3_readToken_117 : decode cX3_readToken 117 = .ok (.iaload, 1) := by decide +kernel
theorem dX3_readToken_118 : decode cX3_readToken 118 = .ok (.invokestatic 93, 3) := by decide +kernel
theorem dX3_readToken_121 : decode cX3_readToken 121 = .ok (.ifCond .eq 10, 3) := by decide +kernel
theorem dX3_readToken_124 : decode cX3_readToken 124 = .ok (.aload_n 0, 1) := by decide +kernel
theorem dX3_readToken_125 : decode cX3_readToken 125 = .ok (.invokevirtual 96, 3) := by decide +kernel
theorem dX3_readToken_128 : decode cX3_readToken 128 = .ok (.goto 48, 3) := by decide +kernel
theorem dX3_readToken_131 : decode cX3_readToken 131 = .ok (.aload_n 0, 1) := by decide +kernel
theorem dX3_readToken_132 : decode cX3_readToken 132 = .ok (.ldc 99, 2) := by decide +kernel
theorem dX3_readToken_134 : decode cX3_readToken 134 = .ok (.aload_n 0, 1) := by decide +kernel
theorem dX3_readToken_135 : decode cX3_readToken 135 = .ok (.getfield 9, 3) := by decide +kernel
theorem dX3_readToken_138 : decode cX3_readToken 138 = .ok (.aload_n 0, 1) := by decide +kernel
theorem dX3_readToken_139 : decode cX3_readToken 139 = .ok (.getfield 65, 3) := by decide +kernel
theorem dX3_readToken_142 : decode cX3_readToken 142 = .ok (.iaload, 1) := by decide +kernel
theorem dX3_readToken_143 : decode cX3_readToken 143 = .ok (.i2c, 1) := by decide +kernel
theorem dX3_readToken_144 : decode cX3_readToken 144 = .ok (.invokevirtual 101, 3) := by decide +kernel
theorem dX3_readToken_147 : decode cX3_readToken 147 = .ok (.ifCond .lt 15, 3) := by decide +kernel
theorem dX3_readToken_150 : decode cX3_readToken 150 = .ok (.aload_n 0, 1) := by decide +kernel
theorem dX3_readToken_151 : decode cX3_readToken 151 = .ok (.getfield 9, 3) := by decide +kernel
theorem dX3_readToken_154 : decode cX3_readToken 154 = .ok (.aload_n 0, 1) := by decide +kernel
theorem dX3_readToken_155 : decode cX3_readToken 155 = .ok (.getfield 65, 3) := by decide +kernel
theorem dX3_readToken_158 : decode cX3_readToken 158 = .ok (.iaload, 1) := by decide +kernel
theorem dX3_readToken_159 : decode cX3_readToken 159 = .ok (.goto 4, 3) := by decide +kernel
theorem dX3_readToken_162 : decode cX3_readToken 162 = .ok (.iconst 2, 1) := by decide +kernel
theorem dX3_readToken_163 : decode cX3_readToken 163 = .ok (.putfield 48, 3) := by decide +kernel
theorem dX3_readToken_166 : decode cX3_readToken 166 = .ok (.aload_n 0, 1) := by decide +kernel
theorem dX3_readToken_167 : decode cX3_readToken 167 = .ok (.aload_n 0, 1) := by decide +kernel
theorem dX3_readToken_168 : decode cX3_readToken 168 = .ok (.getfield 65, 3) := by decide +kernel
theorem dX3_readToken_171 : decode cX3_readToken 171 = .ok (.iconst 1, 1) := by decide +kernel
theorem dX3_readToken_172 : decode cX3_readToken 172 = .ok (.iadd, 1) := by decide +kernel
theorem dX3_readToken_173 : decode cX3_readToken 173 = .ok (.putfield 25, 3) := by decide +kernel
theorem dX3_readToken_176 : decode cX3_readToken 176 = .ok (.return_, 1) := by decide +kernel
theorem dX3_isLetter_0 : decode cX3_isLetter 0 = .ok (.iload_n 0, 1) := by decide +kernel
theorem dX3_isLetter_1 : decode cX3_isLetter 1 = .ok (.bipush 97, 2) := by decide +kernel
theorem dX3_isLetter_3 : decode cX3_isLetter 3 = .ok (.if_icmp .lt 13, 3) := by decide +kernel
theorem dX3_isLetter_6 : decode cX3_isLetter 6 = .ok (.iload_n 0, 1) := by decide +kernel
theorem dX3_isLetter_7 : decode cX3_isLetter 7 = .ok (.bipush 122, 2) := by decide +kernel
theorem dX3_isLetter_9 : decode cX3_isLetter 9 = .ok (.if_icmp .gt 7, 3) := by decide +kernel
theorem dX3_isLetter_12 : decode cX3_isLetter 12 = .ok (.iconst 1, 1) := by decide +kernel
theorem dX3_isLetter_13 : decode cX3_isLetter 13 = .ok (.goto 4, 3) := by decide +kernel
theorem dX3_isLetter_16 : decode cX3_isLetter 16 = .ok (.iconst 0, 1) := by decide +kernel
theorem dX3_isLetter_17 : decode cX3_isLetter 17 = .ok (.ireturn, 1) := by decide +kernel
theorem dX3_isDigit_0 : decode cX3_isDigit 0 = .ok (.iload_n 0, 1) := by decide +kernel
theorem dX3_isDigit_1 : decode cX3_isDigit 1 = .ok (.bipush 48, 2) := by decide +kernel
theorem dX3_isDigit_3 : decode cX3_isDigit 3 = .ok (.if_icmp .lt 13, 3) := by decide +kernel
theorem dX3_isDigit_6 : decode cX3_isDigit 6 = .ok (.iload_n 0, 1) := by decide +kernel
theorem dX3_isDigit_7 : decode cX3_isDigit 7 = .ok (.bipush 57, 2) := by decide +kernel
theorem dX3_isDigit_9 : decode cX3_isDigit 9 = .ok (.if_icmp .gt 7, 3) := by decide +kernel
theorem dX3_isDigit_12 : decode cX3_isDigit 12 = .ok (.iconst 1, 1) := by decide +kernel
theorem dX3_isDigit_13 : decode cX3_isDigit 13 = .ok (.goto 4, 3) := by decide +kernel
theorem dX3_isDigit_16 : decode cX3_isDigit 16 = .ok (.iconst 0, 1) := by decide +kernel
theorem dX3_isDigit_17 : decode cX3_isDigit 17 = .ok (.ireturn, 1) := by decide +kernel
theorem dX3_readNumber_0 : decode cX3_readNumber 0 = .ok (.aload_n 0, 1) := by decide +kernel
theorem dX3_readNumber_1 : decode cX3_readNumber 1 = .ok (.iconst 0, 1) := by decide +kernel
theorem dX3_readNumber_2 : decode cX3_readNumber 2 = .ok (.putfield 81, 3) := by decide +kernel
theorem dX3_readNumber_5 : decode cX3_readNumber 5 = .ok (.aload_n 0, 1) := by decide +kernel
theorem dX3_readNumber_6 : decode cX3_readNumber 6 = .ok (.getfield 25, 3) := by decide +kernel
theorem dX3_readNumber_9 : decode cX3_readNumber 9 = .ok (.aload_n 0, 1) := by decide +kernel
theorem dX3_readNumber_10 : decode cX3_readNumber 10 = .ok (.getfield 18, 3) := by decide +kernel
theorem dX3_readNumber_13 : decode cX3_readNumber 13 = .ok (.if_icmp .ge 55, 3) := by decide +kernel
theorem dX3_readNumber_16 : decode cX3_readNumber 16 = .ok (.aload_n 0, 1) := by decide +kernel
theorem dX3_readNumber_17 : decode cX3_readNumber 17 = .ok (.getfield 9, 3) := by decide +kernel
theorem dX3_readNumber_20 : decode cX3_readNumber 20 = .ok (.aload_n 0, 1) := by decide +kernel
theorem dX3_readNumber_21 : decode cX3_readNumber 21 = .ok (.getfield 25, 3) := by decide +kernel
theorem dX3_readNumber_24 : decode cX3_readNumber 24 = .ok (.iaload, 1) := by decide +kernel
theorem dX3_readNumber_25 : decode cX3_readNumber 25 = .ok (.invokestatic 93, 3) := by decide +kernel
theorem dX3_readNumber_28 : decode cX3_readNumber 28 = .ok (.ifCond .eq 40, 3) := by decide +kernel
theorem dX3_readNumber_31 : decode cX3_readNumber 31 = .ok (.aload_n 0, 1) := by decide +kernel
theorem dX3_readNumber_32 : decode cX3_readNumber 32 = .ok (.aload_n 0, 1) := by decide +kernel
theorem dX3_readNumber_33 : decode cX3_readNumber 33 = .ok (.getfield 81, 3) := by decide +kernel
theorem dX3_readNumber_36 : decode cX3_readNumber 36 = .ok (.bipush 10, 2) := by decide +kernel
theorem dX3_readNumber_38 : decode cX3_readNumber 38 = .ok (.imul, 1) := by decide +kernel
theorem dX3_readNumber_39 : decode cX3_readNumber 39 = .ok (.aload_n 0, 1) := by decide +kernel
theorem dX3_readNumber_40 : decode cX3_readNumber 40 = .ok (.getfield 9, 3) := by decide +kernel
theorem dX3_readNumber_43 : decode cX3_readNumber 43 = .ok (.aload_n 0, 1) := by decide +kernel
theorem dX3_readNumber_44 : decode cX3_readNumber 44 = .ok (.getfield 25, 3) := by decide +kernel
theorem dX3_readNumber_47 : decode cX3_readNumber 47 = .ok (.iaload, 1) := by decide +kernel
theorem dX3_readNumber_48 : decode cX3_readNumber 48 = .ok (.iadd, 1) := by decide +kernel
theorem dX3_readNumber_49 : decode cX3_readNumber 49 = .ok (.bipush 48, 2) := by decide +kernel
theorem dX3_readNumber_51 : decode cX3_readNumber 51 = .ok (.isub, 1) := by decide +kernel
theorem dX3_readNumber_52 : decode cX3_readNumber 52 = .ok (.putfield 81, 3) := by decide +kernel
theorem dX3_readNumber_55 : decode cX3_readNumber 55 = .ok (.aload_n 0, 1) := by decide +kernel
theorem dX3_readNumber_56 : decode cX3_readNumber 56 = .ok (.dup, 1) := by decide +kernel
theorem dX3_readNumber_57 : decode cX3_readNumber 57 = .ok (.getfield 25, 3) := by decide +kernel
theorem dX3_readNumber_60 : decode cX3_readNumber 60 = .ok (.iconst 1, 1) := by decide +kernel
theorem dX3_readNumber_61 : decode cX3_readNumber 61 = .ok (.iadd, 1) := by decide +kernel
theorem dX3_readNumber_62 : decode cX3_readNumber 62 = .ok (.putfield 25, 3) := by decide +kernel
theorem dX3_readNumber_65 : decode cX3_readNumber 65 = .ok (.goto (-60), 3) := by decide +kernel
theorem dX3_readNumber_68 : decode cX3_readNumber 68 = .ok (.aload_n 0, 1) := by decide +kernel
theorem dX3_readNumber_69 : decode cX3_readNumber 69 = .ok (.aload_n 0, 1) := by decide +kernel
theorem dX3_readNumber_70 : decode cX3_readNumber 70 = .ok (.getfield 25, 3) := by decide +kernel
theorem dX3_readNumber_73 : decode cX3_readNumber 73 = .ok (.aload_n 0, 1) := by decide +kernel
theorem dX3_readNumber_74 : decode cX3_readNumber 74 = .ok (.getfield 65, 3) := by decide +kernel
theorem dX3_readNumber_77 : decode cX3_readNumber 77 = .ok (.isub, 1) := by decide +kernel
theorem dX3_readNumber_78 : decode cX3_readNumber 78 = .ok (.iconst 4, 1) := by decide +kernel
theorem dX3_readNumber_79 : decode cX3_readNumber 79 = .ok (.if_icmp .le 7, 3) := by decide +kernel
theorem dX3_readNumber_82 : decode cX3_readNumber 82 = .ok (.iconst 2, 1) := by decide +kernel
theorem dX3_readNumber_83 : decode cX3_readNumber 83 = .ok (.goto 4, 3) := by decide +kernel
theorem dX3_readNumber_86 : decode cX3_readNumber 86 = .ok (.iconst 3, 1) := by decide +kernel
theorem dX3_readNumber_87 : decode cX3_readNumber 87 = .ok (.putfield 48, 3) := by decide +kernel
theorem dX3_readNumber_90 : decode cX3_readNumber 90 = .ok (.return_, 1) := by decide +kernel
theorem dX3_readWord_0 : decode cX3_readWord 0 = .ok (.aload_n 0, 1) := by decide +kernel
theorem dX3_readWord_1 : decode cX3_readWord 1 = .ok (.getfield 25, 3) := by decide +kernel
theorem dX3_readWord_4 : decode cX3_readWord 4 = .ok (.aload_n 0, 1) := by decide +kernel
theorem dX3_readWord_5 : decode cX3_readWord 5 = .ok (.getfield 18, 3) := by decide +kernel
theorem dX3_readWord_8 : decode cX3_readWord 8 = .ok (.if_icmp .ge 31, 3) := by decide +kernel
theorem dX3_readWord_11 : decode cX3_readWord 11 = .ok (.aload_n 0, 1) := by decide +kernel
theorem dX3_readWord_12 : decode cX3_readWord 12 = .ok (.getfield 9, 3) := by decide +kernel
theorem dX3_readWord_15 : decode cX3_readWord 15 = .ok (.aload_n 0, 1) := by decide +kernel
theorem dX3_readWord_16 : decode cX3_readWord 16 = .ok (.getfield 25, 3) := by decide +kernel
theorem dX3_readWord_19 : decode cX3_readWord 19 = .ok (.iaload, 1) := by decide +kernel
theorem dX3_readWord_20 : decode cX3_readWord 20 = .ok (.invokestatic 87, 3) := by decide +kernel
theorem dX3_readWord_23 : decode cX3_readWord 23 = .ok (.ifCond .eq 16, 3) := by decide +kernel
theorem dX3_readWord_26 : decode cX3_readWord 26 = .ok (.aload_n 0, 1) := by decide +kernel
theorem dX3_readWord_27 : decode cX3_readWord 27 = .ok (.dup, 1) := by decide +kernel
theorem dX3_readWord_28 : decode cX3_readWord 28 = .ok (.getfield 25, 3) := by decide +kernel
theorem dX3_readWord_31 : decode cX3_readWord 31 = .ok (.iconst 1, 1) := by decide +kernel
theorem dX3_readWord_32 : decode cX3_readWord 32 = .ok (.iadd, 1) := by decide +kernel
theorem dX3_readWord_33 : decode cX3_readWord 33 = .ok (.putfield 25, 3) := by decide +kernel
theorem dX3_readWord_36 : decode cX3_readWord 36 = .ok (.goto (-36), 3) := by decide +kernel
theorem dX3_readWord_39 : decode cX3_readWord 39 = .ok (.aload_n 0, 1) := by decide +kernel
theorem dX3_readWord_40 : decode cX3_readWord 40 = .ok (.aload_n 0, 1) := by decide +kernel
theorem dX3_readWord_41 : decode cX3_readWord 41 = .ok (.ldc 107, 2) := by decide +kernel
theorem dX3_readWord_43 : decode cX3_readWord 43 = .ok (.invokevirtual 109, 3) := by decide +kernel
theorem dX3_readWord_46 : decode cX3_readWord 46 = .ok (.ifCond .eq 8, 3) := by decide +kernel
theorem dX3_readWord_49 : decode cX3_readWord 49 = .ok (.bipush 101, 2) := by decide +kernel
theorem dX3_readWord_51 : decode cX3_readWord 51 = .ok (.goto 158, 3) := by decide +kernel
theorem dX3_readWord_54 : decode cX3_readWord 54 = .ok (.aload_n 0, 1) := by decide +kernel
theorem dX3_readWord_55 : decode cX3_readWord 55 = .ok (.ldc 113, 2) := by decide +kernel
theorem dX3_readWord_57 : decode cX3_readWord 57 = .ok (.invokevirtual 109, 3) := by decide +kernel
theorem dX3_readWord_60 : decode cX3_readWord 60 = .ok (.ifCond .eq 8, 3) := by decide +kernel
theorem dX3_readWord_63 : decode cX3_readWord 63 = .ok (.bipush 102, 2) := by decide +kernel
theorem dX3_readWord_65 : decode cX3_readWord 65 = .ok (.goto 144, 3) := by decide +kernel
theorem dX3_readWord_68 : decode cX3_readWord 68 = .ok (.aload_n 0, 1) := by decide +kernel
theorem dX3_readWord_69 : decode cX3_readWord 69 = .ok (.ldc 115, 2) := by decide +kernel
theorem dX3_readWord_71 : decode cX3_readWord 71 = .ok (.invokevirtual 109, 3) := by decide +kernel
theorem dX3_readWord_74 : decode cX3_readWord 74 = .ok (.ifCond .eq 8, 3) := by decide +kernel
theorem dX3_readWord_77 : decode cX3_readWord 77 = .ok (.bipush 103, 2) := by decide +kernel
theorem dX3_readWord_79 : decode cX3_readWord 79 = .ok (.goto 130, 3) := by decide +kernel
theorem dX3_readWord_82 : decode cX3_readWord 82 = .ok (.aload_n 0, 1) := by decide +kernel
theorem dX3_readWord_83 : decode cX3_readWord 83 = .ok (.ldc 117, 2) := by decide +kernel
theorem dX3_readWord_85 : decode cX3_readWord 85 = .ok (.invokevirtual 109, 3) := by decide +kernel
theorem dX3_readWord_88 : decode cX3_readWord 88 = .ok (.ifCond .eq 8, 3) := by decide +kernel
theorem dX3_readWord_91 : decode cX3_readWord 91 = .ok (.bipush 104, 2) := by decide +kernel
theorem dX3_readWord_93 : decode cX3_readWord 93 = .ok (.goto 116, 3) := by decide +kernel
theorem dX3_readWord_96 : decode cX3_readWord 96 = .ok (.aload_n 0, 1) := by decide +kernel
theorem dX3_readWord_97 : decode cX3_readWord 97 = .ok (.ldc 119, 2) := by decide +kernel
theorem dX3_readWord_99 : decode cX3_readWord 99 = .ok (.invokevirtual 109, 3) := by decide +kernel
theorem dX3_readWord_102 : decode cX3_readWord 102 = .ok (.ifCond .eq 8, 3) := by decide +kernel
theorem dX3_readWord_105 : decode cX3_readWord 105 = .ok (.bipush 105, 2) := by decide +kernel
theorem dX3_readWord_107 : decode cX3_readWord 107 = .ok (.goto 102, 3) := by decide +kernel
theorem dX3_readWord_110 : decode cX3_readWord 110 = .ok (.aload_n 0, 1) := by decide +kernel
theorem dX3_readWord_111 : decode cX3_readWord 111 = .ok (.ldc 121, 2) := by decide +kernel
theorem dX3_readWord_113 : decode cX3_readWord 113 = .ok (.invokevirtual 109, 3) := by decide +kernel
theorem dX3_readWord_116 : decode cX3_readWord 116 = .ok (.ifCond .eq 8, 3) := by decide +kernel
theorem dX3_readWord_119 : decode cX3_readWord 119 = .ok (.bipush 106, 2) := by decide +kernel
theorem dX3_readWord_121 : decode cX3_readWord 121 = .ok (.goto 88, 3) := by decide +kernel
theorem dX3_readWord_124 : decode cX3_readWord 124 = .ok (.aload_n 0, 1) := by decide +kernel
theorem dX3_readWord_125 : decode cX3_readWord 125 = .ok (.ldc 123, 2) := by decide +kernel
theorem dX3_readWord_127 : decode cX3_readWord 127 = .ok (.invokevirtual 109, 3) := by decide +kernel
theorem dX3_readWord_130 : decode cX3_readWord 130 = .ok (.ifCond .eq 8, 3) := by decide +kernel
theorem dX3_readWord_133 : decode cX3_readWord 133 = .ok (.bipush 107, 2) := by decide +kernel
theorem dX3_readWord_135 : decode cX3_readWord 135 = .ok (.goto 74, 3) := by decide +kernel
theorem dX3_readWord_138 : decode cX3_readWord 138 = .ok (.aload_n 0, 1) := by decide +kernel
theorem dX3_readWord_139 : decode cX3_readWord 139 = .ok (.ldc 125, 2) := by decide +kernel
theorem dX3_readWord_141 : decode cX3_readWord 141 = .ok (.invokevirtual 109, 3) := by decide +kernel
theorem dX3_readWord_144 : decode cX3_readWord 144 = .ok (.ifCond .eq 8, 3) := by decide +kernel
theorem dX3_readWord_147 : decode cX3_readWord 147 = .ok (.bipush 108, 2) := by decide +kernel
theorem dX3_readWord_149 : decode cX3_readWord 149 = .ok (.goto 60, 3) := by decide +kernel
theorem dX3_readWord_152 : decode cX3_readWord 152 = .ok (.aload_n 0, 1) := by decide +kernel
theorem dX3_readWord_153 : decode cX3_readWord 153 = .ok (.ldc 127, 2) := by decide +kernel
theorem dX3_readWord_155 : decode cX3_readWord 155 = .ok (.invokevirtual 109, 3) := by decide +kernel
theorem dX3_readWord_158 : decode cX3_readWord 158 = .ok (.ifCond .eq 8, 3) := by decide +kernel
theorem dX3_readWord_161 : decode cX3_readWord 161 = .ok (.bipush 109, 2) := by decide +kernel
theorem dX3_readWord_163 : decode cX3_readWord 163 = .ok (.goto 46, 3) := by decide +kernel
theorem dX3_readWord_166 : decode cX3_readWord 166 = .ok (.aload_n 0, 1) := by decide +kernel
theorem dX3_readWord_167 : decode cX3_readWord 167 = .ok (.ldc 129, 2) := by decide +kernel
theorem dX3_readWord_169 : decode cX3_readWord 169 = .ok (.invokevirtual 109, 3) := by decide +kernel
theorem dX3_readWord_172 : decode cX3_readWord 172 = .ok (.ifCond .eq 8, 3) := by decide +kernel
theorem dX3_readWord_175 : decode cX3_readWord 175 = .ok (.bipush 110, 2) := by decide +kernel
theorem dX3_readWord_177 : decode cX3_readWord 177 = .ok (.goto 32, 3) := by decide +kernel
theorem dX3_readWord_180 : decode cX3_readWord 180 = .ok (.aload_n 0, 1) := by decide +kernel
theorem dX3_readWord_181 : decode cX3_readWord 181 = .ok (.ldc 131, 2) := by decide +kernel
theorem dX3_readWord_183 : decode cX3_readWord 183 = .ok (.invokevirtual 109, 3) := by decide +kernel
theorem dX3_readWord_186 : decode cX3_readWord 186 = .ok (.ifCond .eq 8, 3) := by decide +kernel
theorem dX3_readWord_189 : decode cX3_readWord 189 = .ok (.bipush 111, 2) := by decide +kernel
theorem dX3_readWord_191 : decode cX3_readWord 191 = .ok (.goto 18, 3) := by decide +kernel
theorem dX3_readWord_194 : decode cX3_readWord 194 = .ok (.aload_n 0, 1) := by decide +kernel
theorem dX3_readWord_195 : decode cX3_readWord 195 = .ok (.ldc 133, 2) := by decide +kernel
theorem dX3_readWord_197 : decode cX3_readWord 197 = .ok (.invokevirtual 109, 3) := by decide +kernel
theorem dX3_readWord_200 : decode cX3_readWord 200 = .ok (.ifCond .eq 8, 3) := by decide +kernel
theorem dX3_readWord_203 : decode cX3_readWord 203 = .ok (.bipush 112, 2) := by decide +kernel
theorem dX3_readWord_205 : decode cX3_readWord 205 = .ok (.goto 4, 3) := by decide +kernel
theorem dX3_readWord_208 : decode cX3_readWord 208 = .ok (.iconst 2, 1) := by decide +kernel
theorem dX3_readWord_209 : decode cX3_readWord 209 = .ok (.putfield 48, 3) := by decide +kernel
theorem dX3_readWord_212 : decode cX3_readWord 212 = .ok (.return_, 1) := by decide +kernel
theorem dX3_spells_0 : decode cX3_spells 0 = .ok (.aload_n 1, 1) := by decide +kernel
theorem dX3_spells_1 : decode cX3_spells 1 = .ok (.invokevirtual 135, 3) := by decide +kernel
theorem dX3_spells_4 : decode cX3_spells 4 = .ok (.aload_n 0, 1) := by decide +kernel
theorem dX3_spells_5 : decode cX3_spells 5 = .ok (.getfield 25, 3) := by decide +kernel
theorem dX3_spells_8 : decode cX3_spells 8 = .ok (.aload_n 0, 1) := by decide +kernel
theorem dX3_spells_9 : decode cX3_spells 9 = .ok (.getfield 65, 3) := by decide +kernel
theorem dX3_spells_12 : decode cX3_spells 12 = .ok (.isub, 1) := by decide +kernel
theorem dX3_spells_13 : decode cX3_spells 13 = .ok (.if_icmp .eq 5, 3) := by decide +kernel
theorem dX3_spells_16 : decode cX3_spells 16 = .ok (.iconst 0, 1) := by decide +kernel
theorem dX3_spells_17 : decode cX3_spells 17 = .ok (.ireturn, 1) := by decide +kernel
theorem dX3_spells_18 : decode cX3_spells 18 = .ok (.iconst 0, 1) := by decide +kernel
theorem dX3_spells_19 : decode cX3_spells 19 = .ok (.istore_n 2, 1) := by decide +kernel
theorem dX3_spells_20 : decode cX3_spells 20 = .ok (.iload_n 2, 1) := by decide +kernel
theorem dX3_spells_21 : decode cX3_spells 21 = .ok (.aload_n 1, 1) := by decide +kernel
theorem dX3_spells_22 : decode cX3_spells 22 = .ok (.invokevirtual 135, 3) := by decide +kernel
theorem dX3_spells_25 : decode cX3_spells 25 = .ok (.if_icmp .ge 30, 3) := by decide +kernel
theorem dX3_spells_28 : decode cX3_spells 28 = .ok (.aload_n 0, 1) := by decide +kernel
theorem dX3_spells_29 : decode cX3_spells 29 = .ok (.getfield 9, 3) := by decide +kernel
theorem dX3_spells_32 : decode cX3_spells 32 = .ok (.aload_n 0, 1) := by decide +kernel
theorem dX3_spells_33 : decode cX3_spells 33 = .ok (.getfield 65, 3) := by decide +kernel
theorem dX3_spells_36 : decode cX3_spells 36 = .ok (.iload_n 2, 1) := by decide +kernel
theorem dX3_spells_37 : decode cX3_spells 37 = .ok (.iadd, 1) := by decide +kernel
theorem dX3_spells_38 : decode cX3_spells 38 = .ok (.iaload, 1) := by decide +kernel
theorem dX3_spells_39 : decode cX3_spells 39 = .ok (.aload_n 1, 1) := by decide +kernel
theorem dX3_spells_40 : decode cX3_spells 40 = .ok (.iload_n 2, 1) := by decide +kernel
theorem dX3_spells_41 : decode cX3_spells 41 = .ok (.invokevirtual 139, 3) := by decide +kernel
theorem dX3_spells_44 : decode cX3_spells 44 = .ok (.if_icmp .eq 5, 3) := by decide +kernel
theorem dX3_spells_47 : decode cX3_spells 47 = .ok (.iconst 0, 1) := by decide +kernel
theorem dX3_spells_48 : decode cX3_spells 48 = .ok (.ireturn, 1) := by decide +kernel
theorem dX3_spells_49 : decode cX3_spells 49 = .ok (.iinc 2 1, 3) := by decide +kernel
theorem dX3_spells_52 : decode cX3_spells 52 = .ok (.goto (-32), 3) := by decide +kernel
theorem dX3_spells_55 : decode cX3_spells 55 = .ok (.iconst 1, 1) := by decide +kernel
theorem dX3_spells_56 : decode cX3_spells 56 = .ok (.ireturn, 1) := by decide +kernel
