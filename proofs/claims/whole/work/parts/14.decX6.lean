theorem dX6_init_0 : decode cX6_init 0 = .ok (.aload_n 0, 1) := by decide +kernel
theorem dX6_init_1 : decode cX6_init 1 = .ok (.invokespecial 3, 3) := by decide +kernel
theorem dX6_init_4 : decode cX6_init 4 = .ok (.return_, 1) := by decide +kernel
theorem dX6_become_0 : decode cX6_become 0 = .ok (.aload_n 0, 1) := by decide +kernel
theorem dX6_become_1 : decode cX6_become 1 = .ok (.aload_n 1, 1) := by decide +kernel
theorem dX6_become_2 : decode cX6_become 2 = .ok (.getfield 9, 3) := by decide +kernel
theorem dX6_become_5 : decode cX6_become 5 = .ok (.putfield 9, 3) := by decide +kernel
theorem dX6_become_8 : decode cX6_become 8 = .ok (.aload_n 0, 1) := by decide +kernel
theorem dX6_become_9 : decode cX6_become 9 = .ok (.aload_n 1, 1) := by decide +kernel
theorem dX6_become_10 : decode cX6_become 10 = .ok (.getfield 15, 3) := by decide +kernel
theorem dX6_become_13 : decode cX6_become 13 = .ok (.putfield 15, 3) := by decide +kernel
theorem dX6_become_16 : decode cX6_become 16 = .ok (.aload_n 0, 1) := by decide +kernel
theorem dX6_become_17 : decode cX6_become 17 = .ok (.aload_n 1, 1) := by decide +kernel
theorem dX6_become_18 : decode cX6_become 18 = .ok (.getfield 18, 3) := by decide +kernel
theorem dX6_become_21 : decode cX6_become 21 = .ok (.putfield 18, 3) := by decide +kernel
theorem dX6_become_24 : decode cX6_become 24 = .ok (.aload_n 0, 1) := by decide +kernel
theorem dX6_become_25 : decode cX6_become 25 = .ok (.aload_n 1, 1) := by decide +kernel
theorem dX6_become_26 : decode cX6_become 26 = .ok (.getfield 21, 3) := by decide +kernel
theorem dX6_become_29 : decode cX6_become 29 = .ok (.putfield 21, 3) := by decide +kernel
theorem dX6_become_32 : decode cX6_become 32 = .ok (.return_, 1) := by decide +kernel
theorem dX6_moves_0 : decode cX6_moves 0 = .ok (.aload_n 0, 1) := by decide +kernel
theorem dX6_moves_1 : decode cX6_moves 1 = .ok (.getfield 9, 3) := by decide +kernel
theorem dX6_moves_4 : decode cX6_moves 4 = .ok (.tableswitch 96 1 5 #[36, 43, 50, 65, 87], 36) := by decide +kernel
theorem dX6_moves_40 : decode cX6_moves 40 = .ok (.iconst 1, 1) := by decide +kernel
theorem dX6_moves_41 : decode cX6_moves 41 = .ok (.aload_n 0, 1) := by decide +kernel
theorem dX6_moves_42 : decode cX6_moves 42 = .ok (.getfield 15, 3) := by decide +kernel
theorem dX6_moves_45 : decode cX6_moves 45 = .ok (.isub, 1) := by decide +kernel
theorem dX6_moves_46 : decode cX6_moves 46 = .ok (.ireturn, 1) := by decide +kernel
theorem dX6_moves_47 : decode cX6_moves 47 = .ok (.iconst 1, 1) := by decide +kernel
theorem dX6_moves_48 : decode cX6_moves 48 = .ok (.aload_n 0, 1) := by decide +kernel
theorem dX6_moves_49 : decode cX6_moves 49 = .ok (.getfield 15, 3) := by decide +kernel
theorem dX6_moves_52 : decode cX6_moves 52 = .ok (.iadd, 1) := by decide +kernel
theorem dX6_moves_53 : decode cX6_moves 53 = .ok (.ireturn, 1) := by decide +kernel
theorem dX6_moves_54 : decode cX6_moves 54 = .ok (.iload_n 1, 1) := by decide +kernel
theorem dX6_moves_55 : decode cX6_moves 55 = .ok (.ifCond .ge 7, 3) := by decide +kernel
theorem dX6_moves_58 : decode cX6_moves 58 = .ok (.iconst 0, 1) := by decide +kernel
theorem dX6_moves_59 : decode cX6_moves 59 = .ok (.goto 9, 3) := by decide +kernel
theorem dX6_moves_62 : decode cX6_moves 62 = .ok (.iconst 1, 1) := by decide +kernel
theorem dX6_moves_63 : decode cX6_moves 63 = .ok (.aload_n 0, 1) := by decide +kernel
theorem dX6_moves_64 : decode cX6_moves 64 = .ok (.getfield 15, 3) := by decide +kernel
theorem dX6_moves_67 : decode cX6_moves 67 = .ok (.isub, 1) := by decide +kernel
theorem dX6_moves_68 : decode cX6_moves 68 = .ok (.ireturn, 1) := by decide +kernel
theorem dX6_moves_69 : decode cX6_moves 69 = .ok (.iload_n 1, 1) := by decide +kernel
theorem dX6_moves_70 : decode cX6_moves 70 = .ok (.ifCond .ge 14, 3) := by decide +kernel
theorem dX6_moves_73 : decode cX6_moves 73 = .ok (.iconst 2, 1) := by decide +kernel
theorem dX6_moves_74 : decode cX6_moves 74 = .ok (.iconst 1, 1) := by decide +kernel
theorem dX6_moves_75 : decode cX6_moves 75 = .ok (.aload_n 0, 1) := by decide +kernel
theorem dX6_moves_76 : decode cX6_moves 76 = .ok (.getfield 15, 3) := by decide +kernel
theorem dX6_moves_79 : decode cX6_moves 79 = .ok (.iadd, 1) := by decide +kernel
theorem dX6_moves_80 : decode cX6_moves 80 = .ok (.imul, 1) := by decide +kernel
theorem dX6_moves_81 : decode cX6_moves 81 = .ok (.goto 9, 3) := by decide +kernel
theorem dX6_moves_84 : decode cX6_moves 84 = .ok (.iconst 1, 1) := by decide +kernel
theorem dX6_moves_85 : decode cX6_moves 85 = .ok (.aload_n 0, 1) := by decide +kernel
theorem dX6_moves_86 : decode cX6_moves 86 = .ok (.getfield 15, 3) := by decide +kernel
theorem dX6_moves_89 : decode cX6_moves 89 = .ok (.iadd, 1) := by decide +kernel
theorem dX6_moves_90 : decode cX6_moves 90 = .ok (.ireturn, 1) := by decide +kernel
theorem dX6_moves_91 : decode cX6_moves 91 = .ok (.iconst 1, 1) := by decide +kernel
theorem dX6_moves_92 : decode cX6_moves 92 = .ok (.aload_n 0, 1) := by decide +kernel
theorem dX6_moves_93 : decode cX6_moves 93 = .ok (.getfield 15, 3) := by decide +kernel
theorem dX6_moves_96 : decode cX6_moves 96 = .ok (.iadd, 1) := by decide +kernel
theorem dX6_moves_97 : decode cX6_moves 97 = .ok (.iconst 2, 1) := by decide +kernel
theorem dX6_moves_98 : decode cX6_moves 98 = .ok (.idiv, 1) := by decide +kernel
theorem dX6_moves_99 : decode cX6_moves 99 = .ok (.ireturn, 1) := by decide +kernel
theorem dX6_moves_100 : decode cX6_moves 100 = .ok (.iconst 1, 1) := by decide +kernel
theorem dX6_moves_101 : decode cX6_moves 101 = .ok (.ireturn, 1) := by decide +kernel
theorem dX6_thirst_0 : decode cX6_thirst 0 = .ok (.aload_n 0, 1) := by decide +kernel
theorem dX6_thirst_1 : decode cX6_thirst 1 = .ok (.getfield 9, 3) := by decide +kernel
theorem dX6_thirst_4 : decode cX6_thirst 4 = .ok (.tableswitch 57 1 5 #[36, 57, 40, 49, 53], 36) := by decide +kernel
theorem dX6_thirst_40 : decode cX6_thirst 40 = .ok (.iload_n 1, 1) := by decide +kernel
theorem dX6_thirst_41 : decode cX6_thirst 41 = .ok (.iconst 2, 1) := by decide +kernel
theorem dX6_thirst_42 : decode cX6_thirst 42 = .ok (.idiv, 1) := by decide +kernel
theorem dX6_thirst_43 : decode cX6_thirst 43 = .ok (.ireturn, 1) := by decide +kernel
theorem dX6_thirst_44 : decode cX6_thirst 44 = .ok (.iload_n 1, 1) := by decide +kernel
theorem dX6_thirst_45 : decode cX6_thirst 45 = .ok (.iconst 2, 1) := by decide +kernel
theorem dX6_thirst_46 : decode cX6_thirst 46 = .ok (.idiv, 1) := by decide +kernel
theorem dX6_thirst_47 : decode cX6_thirst 47 = .ok (.aload_n 0, 1) := by decide +kernel
theorem dX6_thirst_48 : decode cX6_thirst 48 = .ok (.getfield 15, 3) := by decide +kernel
theorem dX6_thirst_51 : decode cX6_thirst 51 = .ok (.iadd, 1) := by decide +kernel
theorem dX6_thirst_52 : decode cX6_thirst 52 = .ok (.ireturn, 1) := by decide +kernel
theorem dX6_thirst_53 : decode cX6_thirst 53 = .ok (.iload_n 1, 1) := by decide +kernel
theorem dX6_thirst_54 : decode cX6_thirst 54 = .ok (.iconst 1, 1) := by decide +kernel
theorem dX6_thirst_55 : decode cX6_thirst 55 = .ok (.iadd, 1) := by decide +kernel
theorem dX6_thirst_56 : decode cX6_thirst 56 = .ok (.ireturn, 1) := by decide +kernel
theorem dX6_thirst_57 : decode cX6_thirst 57 = .ok (.iload_n 1, 1) := by decide +kernel
theorem dX6_thirst_58 : decode cX6_thirst 58 = .ok (.iconst 3, 1) := by decide +kernel
theorem dX6_thirst_59 : decode cX6_thirst 59 = .ok (.iadd, 1) := by decide +kernel
theorem dX6_thirst_60 : decode cX6_thirst 60 = .ok (.ireturn, 1) := by decide +kernel
theorem dX6_thirst_61 : decode cX6_thirst 61 = .ok (.iload_n 1, 1) := by decide +kernel
theorem dX6_thirst_62 : decode cX6_thirst 62 = .ok (.ireturn, 1) := by decide +kernel
theorem dX6_isOf_0 : decode cX6_isOf 0 = .ok (.iload_n 1, 1) := by decide +kernel
theorem dX6_isOf_1 : decode cX6_isOf 1 = .ok (.tableswitch 81 0 2 #[27, 29, 51], 27) := by decide +kernel
theorem dX6_isOf_28 : decode cX6_isOf 28 = .ok (.iconst 1, 1) := by decide +kernel
theorem dX6_isOf_29 : decode cX6_isOf 29 = .ok (.ireturn, 1) := by decide +kernel
theorem dX6_isOf_30 : decode cX6_isOf 30 = .ok (.aload_n 0, 1) := by decide +kernel
theorem dX6_isOf_31 : decode cX6_isOf 31 = .ok (.getfield 9, 3) := by decide +kernel
theorem dX6_isOf_34 : decode cX6_isOf 34 = .ok (.iconst 1, 1) := by decide +kernel
theorem dX6_isOf_35 : decode cX6_isOf 35 = .ok (.if_icmp .eq 11, 3) := by decide +kernel
theorem dX6_isOf_38 : decode cX6_isOf 38 = .ok (.aload_n 0, 1) := by decide +kernel
theorem dX6_isOf_39 : decode cX6_isOf 39 = .ok (.getfield 9, 3) := by decide +kernel
theorem dX6_isOf_42 : decode cX6_isOf 42 = .ok (.iconst 3, 1) := by decide +kernel
theorem dX6_isOf_43 : decode cX6_isOf 43 = .ok (.if_icmp .ne 7, 3) := by decide +kernel
theorem dX6_isOf_46 : decode cX6_isOf 46 = .ok (.iconst 1, 1) := by decide +kernel
theorem dX6_isOf_47 : decode cX6_isOf 47 = .ok (.goto 4, 3) := by decide +kernel
theorem dX6_isOf_50 : decode cX6_isOf 50 = .ok (.iconst 0, 1) := by decide +kernel
theorem dX6_isOf_51 : decode cX6_isOf 51 = .ok (.ireturn, 1) := by decide +kernel
theorem dX6_isOf_52 : decode cX6_isOf 52 = .ok (.aload_n 0, 1) := by decide +kernel
theorem dX6_isOf_53 : decode cX6_isOf 53 = .ok (.getfield 9, 3) := by decide +kernel
theorem dX6_isOf_56 : decode cX6_isOf 56 = .ok (.iconst 2, 1) := by decide +kernel
theorem dX6_isOf_57 : decode cX6_isOf 57 = .ok (.if_icmp .eq 19, 3) := by decide +kernel
theorem dX6_isOf_60 : decode cX6_isOf 60 = .ok (.aload_n 0, 1) := by decide +kernel
theorem dX6_isOf_61 : decode cX6_isOf 61 = .ok (.getfield 9, 3) := by decide +kernel
theorem dX6_isOf_64 : decode cX6_isOf 64 = .ok (.iconst 4, 1) := by decide +kernel
theorem dX6_isOf_65 : decode cX6_isOf 65 = .ok (.if_icmp .eq 11, 3) := by decide +kernel
theorem dX6_isOf_68 : decode cX6_isOf 68 = .ok (.aload_n 0, 1) := by decide +kernel
theorem dX6_isOf_69 : decode cX6_isOf 69 = .ok (.getfield 9, 3) := by decide +kernel
theorem dX6_isOf_72 : decode cX6_isOf 72 = .ok (.iconst 5, 1) := by decide +kernel
theorem dX6_isOf_73 : decode cX6_isOf 73 = .ok (.if_icmp .ne 7, 3) := by decide +kernel
theorem dX6_isOf_76 : decode cX6_isOf 76 = .ok (.iconst 1, 1) := by decide +kernel
theorem dX6_isOf_77 : decode cX6_isOf 77 = .ok (.goto 4, 3) := by decide +kernel
theorem dX6_isOf_80 : decode cX6_isOf 80 = .ok (.iconst 0, 1) := by decide +kernel
theorem dX6_isOf_81 : decode cX6_isOf 81 = .ok (.ireturn, 1) := by decide +kernel
theorem dX6_isOf_82 : decode cX6_isOf 82 = .ok (.aload_n 0, 1) := by decide +kernel
theorem dX6_isOf_83 : decode cX6_isOf 83 = .ok (.getfield 9, 3) := by decide +kernel
theorem dX6_isOf_86 : decode cX6_isOf 86 = .ok (.iload_n 1, 1) := by decide +kernel
theorem dX6_isOf_87 : decode cX6_isOf 87 = .ok (.if_icmp .ne 7, 3) := by decide +kernel
theorem dX6_isOf_90 : decode cX6_isOf 90 = .ok (.iconst 1, 1) := by decide +kernel
theorem dX6_isOf_91 : decode cX6_isOf 91 = .ok (.goto 4, 3) := by decide +kernel
theorem dX6_isOf_94 : decode cX6_isOf 94 = .ok (.iconst 0, 1) := by decide +kernel
theorem dX6_isOf_95 : decode cX6_isOf 95 = .ok (.ireturn, 1) := by decide +kernel
