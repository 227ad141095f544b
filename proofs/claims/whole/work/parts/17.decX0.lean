theorem dX0_init_0 : decode cX0_init 0 = .ok (.aload_n 0, 1) := by decide +kernel
theorem dX0_init_1 : decode cX0_init 1 = .ok (.invokespecial 3, 3) := by decide +kernel
theorem dX0_init_4 : decode cX0_init 4 = .ok (.aload_n 0, 1) := by decide +kernel
theorem dX0_init_5 : decode cX0_init 5 = .ok (.bipush 6, 2) := by decide +kernel
theorem dX0_init_7 : decode cX0_init 7 = .ok (.newarray .int, 2) := by decide +kernel
theorem dX0_init_9 : decode cX0_init 9 = .ok (.putfield 9, 3) := by decide +kernel
theorem dX0_init_12 : decode cX0_init 12 = .ok (.aload_n 0, 1) := by decide +kernel
theorem dX0_init_13 : decode cX0_init 13 = .ok (.bipush 8, 2) := by decide +kernel
theorem dX0_init_15 : decode cX0_init 15 = .ok (.newarray .int, 2) := by decide +kernel
theorem dX0_init_17 : decode cX0_init 17 = .ok (.putfield 15, 3) := by decide +kernel
theorem dX0_init_20 : decode cX0_init 20 = .ok (.aload_n 0, 1) := by decide +kernel
theorem dX0_init_21 : decode cX0_init 21 = .ok (.bipush 8, 2) := by decide +kernel
theorem dX0_init_23 : decode cX0_init 23 = .ok (.newarray .int, 2) := by decide +kernel
theorem dX0_init_25 : decode cX0_init 25 = .ok (.putfield 18, 3) := by decide +kernel
theorem dX0_init_28 : decode cX0_init 28 = .ok (.aload_n 0, 1) := by decide +kernel
theorem dX0_init_29 : decode cX0_init 29 = .ok (.bipush 8, 2) := by decide +kernel
theorem dX0_init_31 : decode cX0_init 31 = .ok (.newarray .int, 2) := by decide +kernel
theorem dX0_init_33 : decode cX0_init 33 = .ok (.putfield 21, 3) := by decide +kernel
theorem dX0_init_36 : decode cX0_init 36 = .ok (.aload_n 0, 1) := by decide +kernel
theorem dX0_init_37 : decode cX0_init 37 = .ok (.bipush 7, 2) := by decide +kernel
theorem dX0_init_39 : decode cX0_init 39 = .ok (.newarray .int, 2) := by decide +kernel
theorem dX0_init_41 : decode cX0_init 41 = .ok (.putfield 24, 3) := by decide +kernel
theorem dX0_init_44 : decode cX0_init 44 = .ok (.aload_n 0, 1) := by decide +kernel
theorem dX0_init_45 : decode cX0_init 45 = .ok (.bipush 7, 2) := by decide +kernel
theorem dX0_init_47 : decode cX0_init 47 = .ok (.newarray .int, 2) := by decide +kernel
theorem dX0_init_49 : decode cX0_init 49 = .ok (.putfield 27, 3) := by decide +kernel
theorem dX0_init_52 : decode cX0_init 52 = .ok (.aload_n 0, 1) := by decide +kernel
theorem dX0_init_53 : decode cX0_init 53 = .ok (.aload_n 1, 1) := by decide +kernel
theorem dX0_init_54 : decode cX0_init 54 = .ok (.putfield 30, 3) := by decide +kernel
theorem dX0_init_57 : decode cX0_init 57 = .ok (.return_, 1) := by decide +kernel
theorem dX0_begin_0 : decode cX0_begin 0 = .ok (.aload_n 0, 1) := by decide +kernel
theorem dX0_begin_1 : decode cX0_begin 1 = .ok (.aload_n 1, 1) := by decide +kernel
theorem dX0_begin_2 : decode cX0_begin 2 = .ok (.putfield 34, 3) := by decide +kernel
theorem dX0_begin_5 : decode cX0_begin 5 = .ok (.aload_n 0, 1) := by decide +kernel
theorem dX0_begin_6 : decode cX0_begin 6 = .ok (.getfield 15, 3) := by decide +kernel
theorem dX0_begin_9 : decode cX0_begin 9 = .ok (.iconst 0, 1) := by decide +kernel
theorem dX0_begin_10 : decode cX0_begin 10 = .ok (.invokestatic 38, 3) := by decide +kernel
theorem dX0_begin_13 : decode cX0_begin 13 = .ok (.aload_n 0, 1) := by decide +kernel
theorem dX0_begin_14 : decode cX0_begin 14 = .ok (.getfield 18, 3) := by decide +kernel
theorem dX0_begin_17 : decode cX0_begin 17 = .ok (.iconst 0, 1) := by decide +kernel
theorem dX0_begin_18 : decode cX0_begin 18 = .ok (.invokestatic 38, 3) := by decide +kernel
theorem dX0_begin_21 : decode cX0_begin 21 = .ok (.aload_n 0, 1) := by decide +kernel
theorem dX0_begin_22 : decode cX0_begin 22 = .ok (.getfield 27, 3) := by decide +kernel
theorem dX0_begin_25 : decode cX0_begin 25 = .ok (.iconst (-1), 1) := by decide +kernel
theorem dX0_begin_26 : decode cX0_begin 26 = .ok (.invokestatic 38, 3) := by decide +kernel
theorem dX0_begin_29 : decode cX0_begin 29 = .ok (.aload_n 0, 1) := by decide +kernel
theorem dX0_begin_30 : decode cX0_begin 30 = .ok (.iconst 0, 1) := by decide +kernel
theorem dX0_begin_31 : decode cX0_begin 31 = .ok (.putfield 44, 3) := by decide +kernel
theorem dX0_begin_34 : decode cX0_begin 34 = .ok (.aload_n 0, 1) := by decide +kernel
theorem dX0_begin_35 : decode cX0_begin 35 = .ok (.iconst 0, 1) := by decide +kernel
theorem dX0_begin_36 : decode cX0_begin 36 = .ok (.putfield 48, 3) := by decide +kernel
theorem dX0_begin_39 : decode cX0_begin 39 = .ok (.aload_n 0, 1) := by decide +kernel
theorem dX0_begin_40 : decode cX0_begin 40 = .ok (.iconst 0, 1) := by decide +kernel
theorem dX0_begin_41 : decode cX0_begin 41 = .ok (.putfield 51, 3) := by decide +kernel
theorem dX0_begin_44 : decode cX0_begin 44 = .ok (.aload_n 0, 1) := by decide +kernel
theorem dX0_begin_45 : decode cX0_begin 45 = .ok (.aload_n 0, 1) := by decide +kernel
theorem dX0_begin_46 : decode cX0_begin 46 = .ok (.getfield 30, 3) := by decide +kernel
theorem dX0_begin_49 : decode cX0_begin 49 = .ok (.getfield 54, 3) := by decide +kernel
theorem dX0_begin_52 : decode cX0_begin 52 = .ok (.putfield 59, 3) := by decide +kernel
theorem dX0_begin_55 : decode cX0_begin 55 = .ok (.aload_n 0, 1) := by decide +kernel
theorem dX0_begin_56 : decode cX0_begin 56 = .ok (.iconst 0, 1) := by decide +kernel
theorem dX0_begin_57 : decode cX0_begin 57 = .ok (.putfield 60, 3) := by decide +kernel
theorem dX0_begin_60 : decode cX0_begin 60 = .ok (.aload_n 0, 1) := by decide +kernel
theorem dX0_begin_61 : decode cX0_begin 61 = .ok (.iconst 0, 1) := by decide +kernel
theorem dX0_begin_62 : decode cX0_begin 62 = .ok (.putfield 63, 3) := by decide +kernel
theorem dX0_begin_65 : decode cX0_begin 65 = .ok (.aload_n 0, 1) := by decide +kernel
theorem dX0_begin_66 : decode cX0_begin 66 = .ok (.iconst 0, 1) := by decide +kernel
theorem dX0_begin_67 : decode cX0_begin 67 = .ok (.putfield 66, 3) := by decide +kernel
theorem dX0_begin_70 : decode cX0_begin 70 = .ok (.aload_n 0, 1) := by decide +kernel
theorem dX0_begin_71 : decode cX0_begin 71 = .ok (.iconst 1, 1) := by decide +kernel
theorem dX0_begin_72 : decode cX0_begin 72 = .ok (.aload_n 0, 1) := by decide +kernel
theorem dX0_begin_73 : decode cX0_begin 73 = .ok (.getfield 30, 3) := by decide +kernel
theorem dX0_begin_76 : decode cX0_begin 76 = .ok (.getfield 69, 3) := by decide +kernel
theorem dX0_begin_79 : decode cX0_begin 79 = .ok (.ishl, 1) := by decide +kernel
theorem dX0_begin_80 : decode cX0_begin 80 = .ok (.iconst 1, 1) := by decide +kernel
theorem dX0_begin_81 : decode cX0_begin 81 = .ok (.isub, 1) := by decide +kernel
theorem dX0_begin_82 : decode cX0_begin 82 = .ok (.putfield 72, 3) := by decide +kernel
theorem dX0_begin_85 : decode cX0_begin 85 = .ok (.return_, 1) := by decide +kernel
theorem dX0_goOnFrom_0 : decode cX0_goOnFrom 0 = .ok (.aload_n 0, 1) := by decide +kernel
theorem dX0_goOnFrom_1 : decode cX0_goOnFrom 1 = .ok (.aload_n 1, 1) := by decide +kernel
theorem dX0_goOnFrom_2 : decode cX0_goOnFrom 2 = .ok (.getfield 34, 3) := by decide +kernel
theorem dX0_goOnFrom_5 : decode cX0_goOnFrom 5 = .ok (.putfield 34, 3) := by decide +kernel
theorem dX0_goOnFrom_8 : decode cX0_goOnFrom 8 = .ok (.aload_n 1, 1) := by decide +kernel
theorem dX0_goOnFrom_9 : decode cX0_goOnFrom 9 = .ok (.getfield 15, 3) := by decide +kernel
theorem dX0_goOnFrom_12 : decode cX0_goOnFrom 12 = .ok (.iconst 0, 1) := by decide +kernel
theorem dX0_goOnFrom_13 : decode cX0_goOnFrom 13 = .ok (.aload_n 0, 1) := by decide +kernel
theorem dX0_goOnFrom_14 : decode cX0_goOnFrom 14 = .ok (.getfield 15, 3) := by decide +kernel
theorem dX0_goOnFrom_17 : decode cX0_goOnFrom 17 = .ok (.iconst 0, 1) := by decide +kernel
theorem dX0_goOnFrom_18 : decode cX0_goOnFrom 18 = .ok (.bipush 8, 2) := by decide +kernel
theorem dX0_goOnFrom_20 : decode cX0_goOnFrom 20 = .ok (.invokestatic 75, 3) := by decide +kernel
theorem dX0_goOnFrom_23 : decode cX0_goOnFrom 23 = .ok (.aload_n 1, 1) := by decide +kernel
theorem dX0_goOnFrom_24 : decode cX0_goOnFrom 24 = .ok (.getfield 18, 3) := by decide +kernel
theorem dX0_goOnFrom_27 : decode cX0_goOnFrom 27 = .ok (.iconst 0, 1) := by decide +kernel
theorem dX0_goOnFrom_28 : decode cX0_goOnFrom 28 = .ok (.aload_n 0, 1) := by decide +kernel
theorem dX0_goOnFrom_29 : decode cX0_goOnFrom 29 = .ok (.getfield 18, 3) := by decide +kernel
theorem dX0_goOnFrom_32 : decode cX0_goOnFrom 32 = .ok (.iconst 0, 1) := by decide +kernel
theorem dX0_goOnFrom_33 : decode cX0_goOnFrom 33 = .ok (.bipush 8, 2) := by decide +kernel
theorem dX0_goOnFrom_35 : decode cX0_goOnFrom 35 = .ok (.invokestatic 75, 3) := by decide +kernel
theorem dX0_goOnFrom_38 : decode cX0_goOnFrom 38 = .ok (.aload_n 0, 1) := by decide +kernel
theorem dX0_goOnFrom_39 : decode cX0_goOnFrom 39 = .ok (.aload_n 1, 1) := by decide +kernel
theorem dX0_goOnFrom_40 : decode cX0_goOnFrom 40 = .ok (.getfield 44, 3) := by decide +kernel
theorem dX0_goOnFrom_43 : decode cX0_goOnFrom 43 = .ok (.putfield 44, 3) := by decide +kernel
theorem dX0_goOnFrom_46 : decode cX0_goOnFrom 46 = .ok (.aload_n 0, 1) := by decide +kernel
theorem dX0_goOnFrom_47 : decode cX0_goOnFrom 47 = .ok (.aload_n 1, 1) := by decide +kernel
theorem dX0_goOnFrom_48 : decode cX0_goOnFrom 48 = .ok (.getfield 48, 3) := by decide +kernel
theorem dX0_goOnFrom_51 : decode cX0_goOnFrom 51 = .ok (.putfield 48, 3) := by decide +kernel
theorem dX0_goOnFrom_54 : decode cX0_goOnFrom 54 = .ok (.aload_n 0, 1) := by decide +kernel
theorem dX0_goOnFrom_55 : decode cX0_goOnFrom 55 = .ok (.aload_n 1, 1) := by decide +kernel
theorem dX0_goOnFrom_56 : decode cX0_goOnFrom 56 = .ok (.getfield 51, 3) := by decide +kernel
theorem dX0_goOnFrom_59 : decode cX0_goOnFrom 59 = .ok (.putfield 51, 3) := by decide +kernel
theorem dX0_goOnFrom_62 : decode cX0_goOnFrom 62 = .ok (.aload_n 0, 1) := by decide +kernel
theorem dX0_goOnFrom_63 : decode cX0_goOnFrom 63 = .ok (.aload_n 1, 1) := by decide +kernel
theorem dX0_goOnFrom_64 : decode cX0_goOnFrom 64 = .ok (.getfield 59, 3) := by decide +kernel
theorem dX0_goOnFrom_67 : decode cX0_goOnFrom 67 = .ok (.putfield 59, 3) := by decide +kernel
theorem dX0_goOnFrom_70 : decode cX0_goOnFrom 70 = .ok (.aload_n 0, 1) := by decide +kernel
theorem dX0_goOnFrom_71 : decode cX0_goOnFrom 71 = .ok (.aload_n 1, 1) := by decide +kernel
theorem dX0_goOnFrom_72 : decode cX0_goOnFrom 72 = .ok (.getfield 60, 3) := by decide +kernel
theorem dX0_goOnFrom_75 : decode cX0_goOnFrom 75 = .ok (.putfield 60, 3) := by decide +kernel
theorem dX0_goOnFrom_78 : decode cX0_goOnFrom 78 = .ok (.aload_n 0, 1) := by decide +kernel
theorem dX0_goOnFrom_79 : decode cX0_goOnFrom 79 = .ok (.aload_n 1, 1) := by decide +kernel
theorem dX0_goOnFrom_80 : decode cX0_goOnFrom 80 = .ok (.getfield 63, 3) := by decide +kernel
theorem dX0_goOnFrom_83 : decode cX0_goOnFrom 83 = .ok (.putfield 63, 3) := by decide +kernel
theorem dX0_goOnFrom_86 : decode cX0_goOnFrom 86 = .ok (.aload_n 0, 1) := by decide +kernel
theorem dX0_goOnFrom_87 : decode cX0_goOnFrom 87 = .ok (.aload_n 1, 1) := by decide +kernel
theorem dX0_goOnFrom_88 : decode cX0_goOnFrom 88 = .ok (.getfield 66, 3) := by decide +kernel
theorem dX0_goOnFrom_91 : decode cX0_goOnFrom 91 = .ok (.putfield 66, 3) := by decide +kernel
theorem dX0_goOnFrom_94 : decode cX0_goOnFrom 94 = .ok (.aload_n 0, 1) := by decide +kernel
theorem dX0_goOnFrom_95 : decode cX0_goOnFrom 95 = .ok (.aload_n 1, 1) := by decide +kernel
theorem dX0_goOnFrom_96 : decode cX0_goOnFrom 96 = .ok (.getfield 72, 3) := by decide +kernel
theorem dX0_goOnFrom_99 : decode cX0_goOnFrom 99 = .ok (.putfield 72, 3) := by decide +kernel
theorem dX0_goOnFrom_102 : decode cX0_goOnFrom 102 = .ok (.return_, 1) := by decide +kernel
theorem dX0_answer_0 : decode cX0_answer 0 = .ok (.iload_n 1, 1) := by decide +kernel
theorem dX0_answer_1 : decode cX0_answer 1 = .ok (.tableswitch 69 0 5 #[39, 44, 49, 54, 59, 64], 39) := by decide +kernel
theorem dX0_answer_40 : decode cX0_answer 40 = .ok (.aload_n 0, 1) := by decide +kernel
theorem dX0_answer_41 : decode cX0_answer 41 = .ok (.getfield 60, 3) := by decide +kernel
theorem dX0_answer_44 : decode cX0_answer 44 = .ok (.ireturn, 1) := by decide +kernel
theorem dX0_answer_45 : decode cX0_answer 45 = .ok (.aload_n 0, 1) := by decide +kernel
theorem dX0_answer_46 : decode cX0_answer 46 = .ok (.getfield 63, 3) := by decide +kernel
theorem dX0_answer_49 : decode cX0_answer 49 = .ok (.ireturn, 1) := by decide +kernel
theorem dX0_answer_50 : decode cX0_answer 50 = .ok (.aload_n 0, 1) := by decide +kernel
theorem dX0_answer_51 : decode cX0_answer 51 = .ok (.getfield 66, 3) := by decide +kernel
theorem dX0_answer_54 : decode cX0_answer 54 = .ok (.ireturn, 1) := by decide +kernel
theorem dX0_answer_55 : decode cX0_answer 55 = .ok (.aload_n 0, 1) := by decide +kernel
theorem dX0_answer_56 : decode cX0_answer 56 = .ok (.getfield 59, 3) := by decide +kernel
theorem dX0_answer_59 : decode cX0_answer 59 = .ok (.ireturn, 1) := by decide +kernel
theorem dX0_answer_60 : decode cX0_answer 60 = .ok (.aload_n 0, 1) := by decide +kernel
theorem dX0_answer_61 : decode cX0_answer 61 = .ok (.getfield 51, 3) := by decide +kernel
theorem dX0_answer_64 : decode cX0_answer 64 = .ok (.ireturn, 1) := by decide +kernel
theorem dX0_answer_65 : decode cX0_answer 65 = .ok (.aload_n 0, 1) := by decide +kernel
theorem dX0_answer_66 : decode cX0_answer 66 = .ok (.getfield 72, 3) := by decide +kernel
theorem dX0_answer_69 : decode cX0_answer 69 = .ok (.ireturn, 1) := by decide +kernel
theorem dX0_answer_70 : decode cX0_answer 70 = .ok (.aload_n 0, 1) := by decide +kernel
theorem dX0_answer_71 : decode cX0_answer 71 = .ok (.invokevirtual 81, 3) := by decide +kernel
theorem dX0_answer_74 : decode cX0_answer 74 = .ok (.ireturn, 1) := by decide +kernel
theorem dX0_rowAsDigits_0 : decode cX0_rowAsDigits 0 = .ok (.iconst 0, 1) := by decide +kernel
theorem dX0_rowAsDigits_1 : decode cX0_rowAsDigits 1 = .ok (.istore_n 1, 1) := by decide +kernel
theorem dX0_rowAsDigits_2 : decode cX0_rowAsDigits 2 = .ok (.iconst 0, 1) := by decide +kernel
theorem dX0_rowAsDigits_3 : decode cX0_rowAsDigits 3 = .ok (.istore_n 2, 1) := by decide +kernel
theorem dX0_rowAsDigits_4 : decode cX0_rowAsDigits 4 = .ok (.iload_n 2, 1) := by decide +kernel
theorem dX0_rowAsDigits_5 : decode cX0_rowAsDigits 5 = .ok (.aload_n 0, 1) := by decide +kernel
theorem dX0_rowAsDigits_6 : decode cX0_rowAsDigits 6 = .ok (.getfield 44, 3) := by decide +kernel
theorem dX0_rowAsDigits_9 : decode cX0_rowAsDigits 9 = .ok (.if_icmp .ge 23, 3) := by decide +kernel
theorem dX0_rowAsDigits_12 : decode cX0_rowAsDigits 12 = .ok (.iload_n 1, 1) := by decide +kernel
theorem dX0_rowAsDigits_13 : decode cX0_rowAsDigits 13 = .ok (.bipush 10, 2) := by decide +kernel
theorem dX0_rowAsDigits_15 : decode cX0_rowAsDigits 15 = .ok (.imul, 1) := by decide +kernel
theorem dX0_rowAsDigits_16 : decode cX0_rowAsDigits 16 = .ok (.aload_n 0, 1) := by decide +kernel
theorem dX0_rowAsDigits_17 : decode cX0_rowAsDigits 17 = .ok (.getfield 24, 3) := by decide +kernel
theorem dX0_rowAsDigits_20 : decode cX0_rowAsDigits 20 = .ok (.iload_n 2, 1) := by decide +kernel
theorem dX0_rowAsDigits_21 : decode cX0_rowAsDigits 21 = .ok (.iaload, 1) := by decide +kernel
theorem dX0_rowAsDigits_22 : decode cX0_rowAsDigits 22 = .ok (.iadd, 1) := by decide +kernel
theorem dX0_rowAsDigits_23 : decode cX0_rowAsDigits 23 = .ok (.iconst 1, 1) := by decide +kernel
theorem dX0_rowAsDigits_24 : decode cX0_rowAsDigits 24 = .ok (.iadd, 1) := by decide +kernel
theorem dX0_rowAsDigits_25 : decode cX0_rowAsDigits 25 = .ok (.istore_n 1, 1) := by decide +kernel
theorem dX0_rowAsDigits_26 : decode cX0_rowAsDigits 26 = .ok (.iinc 2 1, 3) := by decide +kernel
theorem dX0_rowAsDigits_29 : decode cX0_rowAsDigits 29 = .ok (.goto (-25), 3) := by decide +kernel
theorem dX0_rowAsDigits_32 : decode cX0_rowAsDigits 32 = .ok (.iload_n 1, 1) := by decide +kernel
theorem dX0_rowAsDigits_33 : decode cX0_rowAsDigits 33 = .ok (.ireturn, 1) := by decide +kernel
theorem dX0_wasCalled_0 : decode cX0_wasCalled 0 = .ok (.aload_n 0, 1) := by decide +kernel
theorem dX0_wasCalled_1 : decode cX0_wasCalled 1 = .ok (.getfield 48, 3) := by decide +kernel
theorem dX0_wasCalled_4 : decode cX0_wasCalled 4 = .ok (.iload_n 1, 1) := by decide +kernel
theorem dX0_wasCalled_5 : decode cX0_wasCalled 5 = .ok (.ishr, 1) := by decide +kernel
theorem dX0_wasCalled_6 : decode cX0_wasCalled 6 = .ok (.iconst 1, 1) := by decide +kernel
theorem dX0_wasCalled_7 : decode cX0_wasCalled 7 = .ok (.iand, 1) := by decide +kernel
theorem dX0_wasCalled_8 : decode cX0_wasCalled 8 = .ok (.iconst 1, 1) := by decide +kernel
theorem dX0_wasCalled_9 : decode cX0_wasCalled 9 = .ok (.if_icmp .ne 7, 3) := by decide +kernel
theorem dX0_wasCalled_12 : decode cX0_wasCalled 12 = .ok (.iconst 1, 1) := by decide +kernel
theorem dX0_wasCalled_13 : decode cX0_wasCalled 13 = .ok (.goto 4, 3) := by decide +kernel
theorem dX0_wasCalled_16 : decode cX0_wasCalled 16 = .ok (.iconst 0, 1) := by decide +kernel
theorem dX0_wasCalled_17 : decode cX0_wasCalled 17 = .ok (.ireturn, 1) := by decide +kernel
theorem dX0_leaveOut_0 : decode cX0_leaveOut 0 = .ok (.aload_n 0, 1) := by decide +kernel
theorem dX0_leaveOut_1 : decode cX0_leaveOut 1 = .ok (.getfield 30, 3) := by decide +kernel
theorem dX0_leaveOut_4 : decode cX0_leaveOut 4 = .ok (.iload_n 1, 1) := by decide +kernel
theorem dX0_leaveOut_5 : decode cX0_leaveOut 5 = .ok (.invokevirtual 85, 3) := by decide +kernel
theorem dX0_leaveOut_8 : decode cX0_leaveOut 8 = .ok (.ifCond .eq 15, 3) := by decide +kernel
theorem dX0_leaveOut_11 : decode cX0_leaveOut 11 = .ok (.aload_n 0, 1) := by decide +kernel
theorem dX0_leaveOut_12 : decode cX0_leaveOut 12 = .ok (.dup, 1) := by decide +kernel
theorem dX0_leaveOut_13 : decode cX0_leaveOut 13 = .ok (.getfield 48, 3) := by decide +kernel
theorem dX0_leaveOut_16 : decode cX0_leaveOut 16 = .ok (.iconst 1, 1) := by decide +kernel
theorem dX0_leaveOut_17 : decode cX0_leaveOut 17 = .ok (.iload_n 1, 1) := by decide +kernel
theorem dX0_leaveOut_18 : decode cX0_leaveOut 18 = .ok (.ishl, 1) := by decide +kernel
theorem dX0_leaveOut_19 : decode cX0_leaveOut 19 = .ok (.ior, 1) := by decide +kernel
theorem dX0_leaveOut_20 : decode cX0_leaveOut 20 = .ok (.putfield 48, 3) := by decide +kernel
theorem dX0_leaveOut_23 : decode cX0_leaveOut 23 = .ok (.return_, 1) := by decide +kernel
theorem dX0_wouldBeSung_0 : decode cX0_wouldBeSung 0 = .ok (.aload_n 0, 1) := by decide +kernel
theorem dX0_wouldBeSung_1 : decode cX0_wouldBeSung 1 = .ok (.getfield 30, 3) := by decide +kernel
theorem dX0_wouldBeSung_4 : decode cX0_wouldBeSung 4 = .ok (.getfield 89, 3) := by decide +kernel
theorem dX0_wouldBeSung_7 : decode cX0_wouldBeSung 7 = .ok (.iload_n 1, 1) := by decide +kernel
theorem dX0_wouldBeSung_8 : decode cX0_wouldBeSung 8 = .ok (.aaload, 1) := by decide +kernel
theorem dX0_wouldBeSung_9 : decode cX0_wouldBeSung 9 = .ok (.astore_n 2, 1) := by decide +kernel
theorem dX0_wouldBeSung_10 : decode cX0_wouldBeSung 10 = .ok (.aload_n 0, 1) := by decide +kernel
theorem dX0_wouldBeSung_11 : decode cX0_wouldBeSung 11 = .ok (.getfield 72, 3) := by decide +kernel
theorem dX0_wouldBeSung_14 : decode cX0_wouldBeSung 14 = .ok (.aload_n 2, 1) := by decide +kernel
theorem dX0_wouldBeSung_15 : decode cX0_wouldBeSung 15 = .ok (.getfield 93, 3) := by decide +kernel
theorem dX0_wouldBeSung_18 : decode cX0_wouldBeSung 18 = .ok (.ishr, 1) := by decide +kernel
theorem dX0_wouldBeSung_19 : decode cX0_wouldBeSung 19 = .ok (.iconst 1, 1) := by decide +kernel
theorem dX0_wouldBeSung_20 : decode cX0_wouldBeSung 20 = .ok (.iand, 1) := by decide +kernel
theorem dX0_wouldBeSung_21 : decode cX0_wouldBeSung 21 = .ok (.iconst 1, 1) := by decide +kernel
theorem dX0_wouldBeSung_22 : decode cX0_wouldBeSung 22 = .ok (.if_icmp .ne 26, 3) := by decide +kernel
theorem dX0_wouldBeSung_25 : decode cX0_wouldBeSung 25 = .ok (.aload_n 0, 1) := by decide +kernel
theorem dX0_wouldBeSung_26 : decode cX0_wouldBeSung 26 = .ok (.getfield 51, 3) := by decide +kernel
theorem dX0_wouldBeSung_29 : decode cX0_wouldBeSung 29 = .ok (.aload_n 2, 1) := by decide +kernel
theorem dX0_wouldBeSung_30 : decode cX0_wouldBeSung 30 = .ok (.getfield 98, 3) := by decide +kernel
theorem dX0_wouldBeSung_33 : decode cX0_wouldBeSung 33 = .ok (.iadd, 1) := by decide +kernel
theorem dX0_wouldBeSung_34 : decode cX0_wouldBeSung 34 = .ok (.aload_n 0, 1) := by decide +kernel
theorem dX0_wouldBeSung_35 : decode cX0_wouldBeSung 35 = .ok (.getfield 30, 3) := by decide +kernel
theorem dX0_wouldBeSung_38 : decode cX0_wouldBeSung 38 = .ok (.getfield 101, 3) := by decide +kernel
theorem dX0_wouldBeSung_41 : decode cX0_wouldBeSung 41 = .ok (.if_icmp .gt 7, 3) := by decide +kernel
theorem dX0_wouldBeSung_44 : decode cX0_wouldBeSung 44 = .ok (.iconst 1, 1) := by decide +kernel
theorem dX0_wouldBeSung_45 : decode cX0_wouldBeSung 45 = .ok (.goto 4, 3) := by decide +kernel
theorem dX0_wouldBeSung_48 : decode cX0_wouldBeSung 48 = .ok (.iconst 0, 1) := by decide +kernel
theorem dX0_wouldBeSung_49 : decode cX0_wouldBeSung 49 = .ok (.ireturn, 1) := by decide +kernel
theorem dX0_callSlip_0 : decode cX0_callSlip 0 = .ok (.aload_n 0, 1) := by decide +kernel
theorem dX0_callSlip_1 : decode cX0_callSlip 1 = .ok (.getfield 30, 3) := by decide +kernel
theorem dX0_callSlip_4 : decode cX0_callSlip 4 = .ok (.iload_n 1, 1) := by decide +kernel
theorem dX0_callSlip_5 : decode cX0_callSlip 5 = .ok (.invokevirtual 85, 3) := by decide +kernel
theorem dX0_callSlip_8 : decode cX0_callSlip 8 = .ok (.ifCond .eq 20, 3) := by decide +kernel
theorem dX0_callSlip_11 : decode cX0_callSlip 11 = .ok (.aload_n 0, 1) := by decide +kernel
theorem dX0_callSlip_12 : decode cX0_callSlip 12 = .ok (.iload_n 1, 1) := by decide +kernel
theorem dX0_callSlip_13 : decode cX0_callSlip 13 = .ok (.invokevirtual 104, 3) := by decide +kernel
theorem dX0_callSlip_16 : decode cX0_callSlip 16 = .ok (.ifCond .ne 12, 3) := by decide +kernel
theorem dX0_callSlip_19 : decode cX0_callSlip 19 = .ok (.aload_n 0, 1) := by decide +kernel
theorem dX0_callSlip_20 : decode cX0_callSlip 20 = .ok (.getfield 44, 3) := by decide +kernel
theorem dX0_callSlip_23 : decode cX0_callSlip 23 = .ok (.bipush 7, 2) := by decide +kernel
theorem dX0_callSlip_25 : decode cX0_callSlip 25 = .ok (.if_icmp .lt 4, 3) := by decide +kernel
theorem dX0_callSlip_28 : decode cX0_callSlip 28 = .ok (.return_, 1) := by decide +kernel
theorem dX0_callSlip_29 : decode cX0_callSlip 29 = .ok (.aload_n 0, 1) := by decide +kernel
theorem dX0_callSlip_30 : decode cX0_callSlip 30 = .ok (.dup, 1) := by decide +kernel
theorem dX0_callSlip_31 : decode cX0_callSlip 31 = .ok (.getfield 48, 3) := by decide +kernel
theorem dX0_callSlip_34 : decode cX0_callSlip 34 = .ok (.iconst 1, 1) := by decide +kernel
theorem dX0_callSlip_35 : decode cX0_callSlip 35 = .ok (.iload_n 1, 1) := by decide +kernel
theorem dX0_callSlip_36 : decode cX0_callSlip 36 = .ok (.ishl, 1) := by decide +kernel
theorem dX0_callSlip_37 : decode cX0_callSlip 37 = .ok (.ior, 1) := by decide +kernel
theorem dX0_callSlip_38 : decode cX0_callSlip 38 = .ok (.putfield 48, 3) := by decide +kernel
theorem dX0_callSlip_41 : decode cX0_callSlip 41 = .ok (.aload_n 0, 1) := by decide +kernel
theorem dX0_callSlip_42 : decode cX0_callSlip 42 = .ok (.getfield 24, 3) := by decide +kernel
theorem dX0_callSlip_45 : decode cX0_callSlip 45 = .ok (.aload_n 0, 1) := by decide +kernel
theorem dX0_callSlip_46 : decode cX0_callSlip 46 = .ok (.getfield 44, 3) := by decide +kernel
theorem dX0_callSlip_49 : decode cX0_callSlip 49 = .ok (.iload_n 1, 1) := by decide +kernel
theorem dX0_callSlip_50 : decode cX0_callSlip 50 = .ok (.iastore, 1) := by decide +kernel
theorem dX0_callSlip_51 : decode cX0_callSlip 51 = .ok (.aload_n 0, 1) := by decide +kernel
theorem dX0_callSlip_52 : decode cX0_callSlip 52 = .ok (.dup, 1) := by decide +kernel
theorem dX0_callSlip_53 : decode cX0_callSlip 53 = .ok (.getfield 44, 3) := by decide +kernel
theorem dX0_callSlip_56 : decode cX0_callSlip 56 = .ok (.iconst 1, 1) := by decide +kernel
theorem dX0_callSlip_57 : decode cX0_callSlip 57 = .ok (.iadd, 1) := by decide +kernel
theorem dX0_callSlip_58 : decode cX0_callSlip 58 = .ok (.putfield 44, 3) := by decide +kernel
theorem dX0_callSlip_61 : decode cX0_callSlip 61 = .ok (.aload_n 0, 1) := by decide +kernel
theorem dX0_callSlip_62 : decode cX0_callSlip 62 = .ok (.iload_n 1, 1) := by decide +kernel
theorem dX0_callSlip_63 : decode cX0_callSlip 63 = .ok (.invokevirtual 107, 3) := by decide +kernel
theorem dX0_callSlip_66 : decode cX0_callSlip 66 = .ok (.ifCond .ne 4, 3) := by decide +kernel
theorem dX0_callSlip_69 : decode cX0_callSlip 69 = .ok (.return_, 1) := by decide +kernel
theorem dX0_callSlip_70 : decode cX0_callSlip 70 = .ok (.aload_n 0, 1) := by decide +kernel
theorem dX0_callSlip_71 : decode cX0_callSlip 71 = .ok (.getfield 30, 3) := by decide +kernel
theorem dX0_callSlip_74 : decode cX0_callSlip 74 = .ok (.getfield 89, 3) := by decide +kernel
theorem dX0_callSlip_77 : decode cX0_callSlip 77 = .ok (.iload_n 1, 1) := by decide +kernel
theorem dX0_callSlip_78 : decode cX0_callSlip 78 = .ok (.aaload, 1) := by decide +kernel
theorem dX0_callSlip_79 : decode cX0_callSlip 79 = .ok (.astore_n 2, 1) := by decide +kernel
theorem dX0_callSlip_80 : decode cX0_callSlip 80 = .ok (.aload_n 0, 1) := by decide +kernel
theorem dX0_callSlip_81 : decode cX0_callSlip 81 = .ok (.getfield 30, 3) := by decide +kernel
theorem dX0_callSlip_84 : decode cX0_callSlip 84 = .ok (.aload_n 2, 1) := by decide +kernel
theorem dX0_callSlip_85 : decode cX0_callSlip 85 = .ok (.invokevirtual 110, 3) := by decide +kernel
theorem dX0_callSlip_88 : decode cX0_callSlip 88 = .ok (.istore_n 3, 1) := by decide +kernel
theorem dX0_callSlip_89 : decode cX0_callSlip 89 = .ok (.aload_n 0, 1) := by decide +kernel
theorem dX0_callSlip_90 : decode cX0_callSlip 90 = .ok (.getfield 27, 3) := by decide +kernel
theorem dX0_callSlip_93 : decode cX0_callSlip 93 = .ok (.iload_n 1, 1) := by decide +kernel
theorem dX0_callSlip_94 : decode cX0_callSlip 94 = .ok (.aload_n 0, 1) := by decide +kernel
theorem dX0_callSlip_95 : decode cX0_callSlip 95 = .ok (.getfield 51, 3) := by decide +kernel
theorem dX0_callSlip_98 : decode cX0_callSlip 98 = .ok (.iastore, 1) := by decide +kernel
theorem dX0_callSlip_99 : decode cX0_callSlip 99 = .ok (.aload_n 0, 1) := by decide +kernel
theorem dX0_callSlip_100 : decode cX0_callSlip 100 = .ok (.dup, 1) := by decide +kernel
theorem dX0_callSlip_101 : decode cX0_callSlip 101 = .ok (.getfield 51, 3) := by decide +kernel
theorem dX0_callSlip_104 : decode cX0_callSlip 104 = .ok (.aload_n 2, 1) := by decide +kernel
theorem dX0_callSlip_105 : decode cX0_callSlip 105 = .ok (.getfield 98, 3) := by decide +kernel
theorem dX0_callSlip_108 : decode cX0_callSlip 108 = .ok (.iadd, 1) := by decide +kernel
theorem dX0_callSlip_109 : decode cX0_callSlip 109 = .ok (.putfield 51, 3) := by decide +kernel
theorem dX0_callSlip_112 : decode cX0_callSlip 112 = .ok (.aload_n 0, 1) := by decide +kernel
theorem dX0_callSlip_113 : decode cX0_callSlip 113 = .ok (.aload_n 0, 1) := by decide +kernel
theorem dX0_callSlip_114 : decode cX0_callSlip 114 = .ok (.getfield 59, 3) := by decide +kernel
theorem dX0_callSlip_117 : decode cX0_callSlip 117 = .ok (.aload_n 2, 1) := by decide +kernel
theorem dX0_callSlip_118 : decode cX0_callSlip 118 = .ok (.aload_n 0, 1) := by decide +kernel
theorem dX0_callSlip_119 : decode cX0_callSlip 119 = .ok (.getfield 59, 3) := by decide +kernel
theorem dX0_callSlip_122 : decode cX0_callSlip 122 = .ok (.invokevirtual 114, 3) := by decide +kernel
theorem dX0_callSlip_125 : decode cX0_callSlip 125 = .ok (.iadd, 1) := by decide +kernel
theorem dX0_callSlip_126 : decode cX0_callSlip 126 = .ok (.bipush (-99), 2) := by decide +kernel
theorem dX0_callSlip_128 : decode cX0_callSlip 128 = .ok (.bipush 99, 2) := by decide +kernel
theorem dX0_callSlip_130 : decode cX0_callSlip 130 = .ok (.invokestatic 118, 3) := by decide +kernel
theorem dX0_callSlip_133 : decode cX0_callSlip 133 = .ok (.putfield 59, 3) := by decide +kernel
theorem dX0_callSlip_136 : decode cX0_callSlip 136 = .ok (.aload_n 0, 1) := by decide +kernel
theorem dX0_callSlip_137 : decode cX0_callSlip 137 = .ok (.getfield 15, 3) := by decide +kernel
theorem dX0_callSlip_140 : decode cX0_callSlip 140 = .ok (.iload_n 3, 1) := by decide +kernel
theorem dX0_callSlip_141 : decode cX0_callSlip 141 = .ok (.aload_n 0, 1) := by decide +kernel
theorem dX0_callSlip_142 : decode cX0_callSlip 142 = .ok (.getfield 51, 3) := by decide +kernel
theorem dX0_callSlip_145 : decode cX0_callSlip 145 = .ok (.iastore, 1) := by decide +kernel
theorem dX0_callSlip_146 : decode cX0_callSlip 146 = .ok (.aload_n 0, 1) := by decide +kernel
theorem dX0_callSlip_147 : decode cX0_callSlip 147 = .ok (.getfield 18, 3) := by decide +kernel
theorem dX0_callSlip_150 : decode cX0_callSlip 150 = .ok (.iload_n 3, 1) := by decide +kernel
theorem dX0_callSlip_151 : decode cX0_callSlip 151 = .ok (.dup2, 1) := by decide +kernel
theorem dX0_callSlip_152 : decode cX0_callSlip 152 = .ok (.iaload, 1) := by decide +kernel
theorem dX0_callSlip_153 : decode cX0_callSlip 153 = .ok (.iconst 1, 1) := by decide +kernel
theorem dX0_callSlip_154 : decode cX0_callSlip 154 = .ok (.iadd, 1) := by decide +kernel
theorem dX0_callSlip_155 : decode cX0_callSlip 155 = .ok (.iastore, 1) := by decide +kernel
theorem dX0_callSlip_156 : decode cX0_callSlip 156 = .ok (.aload_n 0, 1) := by decide +kernel
theorem dX0_callSlip_157 : decode cX0_callSlip 157 = .ok (.dup, 1) := by decide +kernel
theorem dX0_callSlip_158 : decode cX0_callSlip 158 = .ok (.getfield 66, 3) := by decide +kernel
theorem dX0_callSlip_161 : decode cX0_callSlip 161 = .ok (.iconst 1, 1) := by decide +kernel
theorem dX0_callSlip_162 : decode cX0_callSlip 162 = .ok (.iadd, 1) := by decide +kernel
theorem dX0_callSlip_163 : decode cX0_callSlip 163 = .ok (.putfield 66, 3) := by decide +kernel
theorem dX0_callSlip_166 : decode cX0_callSlip 166 = .ok (.aload_n 0, 1) := by decide +kernel
theorem dX0_callSlip_167 : decode cX0_callSlip 167 = .ok (.iconst 0, 1) := by decide +kernel
theorem dX0_callSlip_168 : decode cX0_callSlip 168 = .ok (.iconst 0, 1) := by decide +kernel
theorem dX0_callSlip_169 : decode cX0_callSlip 169 = .ok (.aload_n 2, 1) := by decide +kernel
theorem dX0_callSlip_170 : decode cX0_callSlip 170 = .ok (.getfield 122, 3) := by decide +kernel
theorem dX0_callSlip_173 : decode cX0_callSlip 173 = .ok (.invokevirtual 125, 3) := by decide +kernel
theorem dX0_callSlip_176 : decode cX0_callSlip 176 = .ok (.aload_n 0, 1) := by decide +kernel
theorem dX0_callSlip_177 : decode cX0_callSlip 177 = .ok (.getfield 34, 3) := by decide +kernel
theorem dX0_callSlip_180 : decode cX0_callSlip 180 = .ok (.iconst 1, 1) := by decide +kernel
theorem dX0_callSlip_181 : decode cX0_callSlip 181 = .ok (.aload_n 0, 1) := by decide +kernel
theorem dX0_callSlip_182 : decode cX0_callSlip 182 = .ok (.getfield 9, 3) := by decide +kernel
theorem dX0_callSlip_185 : decode cX0_callSlip 185 = .ok (.invokevirtual 131, 3) := by decide +kernel
theorem dX0_callSlip_188 : decode cX0_callSlip 188 = .ok (.iconst 0, 1) := by decide +kernel
theorem dX0_callSlip_189 : decode cX0_callSlip 189 = .ok (.bipush 99, 2) := by decide +kernel
theorem dX0_callSlip_191 : decode cX0_callSlip 191 = .ok (.invokestatic 118, 3) := by decide +kernel
theorem dX0_callSlip_194 : decode cX0_callSlip 194 = .ok (.istore 4, 2) := by decide +kernel
theorem dX0_callSlip_196 : decode cX0_callSlip 196 = .ok (.aload_n 0, 1) := by decide +kernel
theorem dX0_callSlip_197 : decode cX0_callSlip 197 = .ok (.dup, 1) := by decide +kernel
theorem dX0_callSlip_198 : decode cX0_callSlip 198 = .ok (.getfield 60, 3) := by decide +kernel
theorem dX0_callSlip_201 : decode cX0_callSlip 201 = .ok (.iconst 0, 1) := by decide +kernel
theorem dX0_callSlip_202 : decode cX0_callSlip 202 = .ok (.aload_n 2, 1) := by decide +kernel
theorem dX0_callSlip_203 : decode cX0_callSlip 203 = .ok (.aload_n 0, 1) := by decide +kernel
theorem dX0_callSlip_204 : decode cX0_callSlip 204 = .ok (.getfield 72, 3) := by decide +kernel
theorem dX0_callSlip_207 : decode cX0_callSlip 207 = .ok (.invokestatic 135, 3) := by decide +kernel
theorem dX0_callSlip_210 : decode cX0_callSlip 210 = .ok (.invokevirtual 140, 3) := by decide +kernel
theorem dX0_callSlip_213 : decode cX0_callSlip 213 = .ok (.invokestatic 143, 3) := by decide +kernel
theorem dX0_callSlip_216 : decode cX0_callSlip 216 = .ok (.iload 4, 2) := by decide +kernel
theorem dX0_callSlip_218 : decode cX0_callSlip 218 = .ok (.imul, 1) := by decide +kernel
theorem dX0_callSlip_219 : decode cX0_callSlip 219 = .ok (.iadd, 1) := by decide +kernel
theorem dX0_callSlip_220 : decode cX0_callSlip 220 = .ok (.putfield 60, 3) := by decide +kernel
theorem dX0_callSlip_223 : decode cX0_callSlip 223 = .ok (.aload_n 0, 1) := by decide +kernel
theorem dX0_callSlip_224 : decode cX0_callSlip 224 = .ok (.invokevirtual 149, 3) := by decide +kernel
theorem dX0_callSlip_227 : decode cX0_callSlip 227 = .ok (.return_, 1) := by decide +kernel
theorem dX0_nameAll_0 : decode cX0_nameAll 0 = .ok (.aload_n 0, 1) := by decide +kernel
theorem dX0_nameAll_1 : decode cX0_nameAll 1 = .ok (.getfield 9, 3) := by decide +kernel
theorem dX0_nameAll_4 : decode cX0_nameAll 4 = .ok (.iconst 0, 1) := by decide +kernel
theorem dX0_nameAll_5 : decode cX0_nameAll 5 = .ok (.aload_n 0, 1) := by decide +kernel
theorem dX0_nameAll_6 : decode cX0_nameAll 6 = .ok (.getfield 51, 3) := by decide +kernel
theorem dX0_nameAll_9 : decode cX0_nameAll 9 = .ok (.iastore, 1) := by decide +kernel
theorem dX0_nameAll_10 : decode cX0_nameAll 10 = .ok (.aload_n 0, 1) := by decide +kernel
theorem dX0_nameAll_11 : decode cX0_nameAll 11 = .ok (.getfield 9, 3) := by decide +kernel
theorem dX0_nameAll_14 : decode cX0_nameAll 14 = .ok (.iconst 1, 1) := by decide +kernel
theorem dX0_nameAll_15 : decode cX0_nameAll 15 = .ok (.iload_n 1, 1) := by decide +kernel
theorem dX0_nameAll_16 : decode cX0_nameAll 16 = .ok (.iastore, 1) := by decide +kernel
theorem dX0_nameAll_17 : decode cX0_nameAll 17 = .ok (.aload_n 0, 1) := by decide +kernel
theorem dX0_nameAll_18 : decode cX0_nameAll 18 = .ok (.getfield 9, 3) := by decide +kernel
theorem dX0_nameAll_21 : decode cX0_nameAll 21 = .ok (.iconst 2, 1) := by decide +kernel
theorem dX0_nameAll_22 : decode cX0_nameAll 22 = .ok (.iload_n 2, 1) := by decide +kernel
theorem dX0_nameAll_23 : decode cX0_nameAll 23 = .ok (.iastore, 1) := by decide +kernel
theorem dX0_nameAll_24 : decode cX0_nameAll 24 = .ok (.aload_n 0, 1) := by decide +kernel
theorem dX0_nameAll_25 : decode cX0_nameAll 25 = .ok (.getfield 9, 3) := by decide +kernel
theorem dX0_nameAll_28 : decode cX0_nameAll 28 = .ok (.iconst 3, 1) := by decide +kernel
theorem dX0_nameAll_29 : decode cX0_nameAll 29 = .ok (.iload_n 3, 1) := by decide +kernel
theorem dX0_nameAll_30 : decode cX0_nameAll 30 = .ok (.iastore, 1) := by decide +kernel
theorem dX0_nameAll_31 : decode cX0_nameAll 31 = .ok (.aload_n 0, 1) := by decide +kernel
theorem dX0_nameAll_32 : decode cX0_nameAll 32 = .ok (.getfield 9, 3) := by decide +kernel
theorem dX0_nameAll_35 : decode cX0_nameAll 35 = .ok (.iconst 4, 1) := by decide +kernel
theorem dX0_nameAll_36 : decode cX0_nameAll 36 = .ok (.aload_n 0, 1) := by decide +kernel
theorem dX0_nameAll_37 : decode cX0_nameAll 37 = .ok (.getfield 60, 3) := by decide +kernel
theorem dX0_nameAll_40 : decode cX0_nameAll 40 = .ok (.iastore, 1) := by decide +kernel
theorem dX0_nameAll_41 : decode cX0_nameAll 41 = .ok (.aload_n 0, 1) := by decide +kernel
theorem dX0_nameAll_42 : decode cX0_nameAll 42 = .ok (.getfield 9, 3) := by decide +kernel
theorem dX0_nameAll_45 : decode cX0_nameAll 45 = .ok (.iconst 5, 1) := by decide +kernel
theorem dX0_nameAll_46 : decode cX0_nameAll 46 = .ok (.aload_n 0, 1) := by decide +kernel
theorem dX0_nameAll_47 : decode cX0_nameAll 47 = .ok (.getfield 59, 3) := by decide +kernel
theorem dX0_nameAll_50 : decode cX0_nameAll 50 = .ok (.iastore, 1) := by decide +kernel
theorem dX0_nameAll_51 : decode cX0_nameAll 51 = .ok (.return_, 1) := by decide +kernel
theorem dX0_letLeave_0 : decode cX0_letLeave 0 = .ok (.iconst 0, 1) := by decide +kernel
theorem dX0_letLeave_1 : decode cX0_letLeave 1 = .ok (.istore_n 1, 1) := by decide +kernel
theorem dX0_letLeave_2 : decode cX0_letLeave 2 = .ok (.iconst 0, 1) := by decide +kernel
theorem dX0_letLeave_3 : decode cX0_letLeave 3 = .ok (.istore_n 2, 1) := by decide +kernel
theorem dX0_letLeave_4 : decode cX0_letLeave 4 = .ok (.iload_n 2, 1) := by decide +kernel
theorem dX0_letLeave_5 : decode cX0_letLeave 5 = .ok (.aload_n 0, 1) := by decide +kernel
theorem dX0_letLeave_6 : decode cX0_letLeave 6 = .ok (.getfield 30, 3) := by decide +kernel
theorem dX0_letLeave_9 : decode cX0_letLeave 9 = .ok (.getfield 69, 3) := by decide +kernel
theorem dX0_letLeave_12 : decode cX0_letLeave 12 = .ok (.if_icmp .ge 149, 3) := by decide +kernel
theorem dX0_letLeave_15 : decode cX0_letLeave 15 = .ok (.aload_n 0, 1) := by decide +kernel
theorem dX0_letLeave_16 : decode cX0_letLeave 16 = .ok (.getfield 72, 3) := by decide +kernel
theorem dX0_letLeave_19 : decode cX0_letLeave 19 = .ok (.iload_n 2, 1) := by decide +kernel
theorem dX0_letLeave_20 : decode cX0_letLeave 20 = .ok (.ishr, 1) := by decide +kernel
theorem dX0_letLeave_21 : decode cX0_letLeave 21 = .ok (.iconst 1, 1) := by decide +kernel
theorem dX0_letLeave_22 : decode cX0_letLeave 22 = .ok (.iand, 1) := by decide +kernel
theorem dX0_letLeave_23 : decode cX0_letLeave 23 = .ok (.ifCond .ne 6, 3) := by decide +kernel
theorem dX0_letLeave_26 : decode cX0_letLeave 26 = .ok (.goto 129, 3) := by decide +kernel
theorem dX0_letLeave_29 : decode cX0_letLeave 29 = .ok (.aload_n 0, 1) := by decide +kernel
theorem dX0_letLeave_30 : decode cX0_letLeave 30 = .ok (.getfield 30, 3) := by decide +kernel
theorem dX0_letLeave_33 : decode cX0_letLeave 33 = .ok (.getfield 152, 3) := by decide +kernel
theorem dX0_letLeave_36 : decode cX0_letLeave 36 = .ok (.iload_n 2, 1) := by decide +kernel
theorem dX0_letLeave_37 : decode cX0_letLeave 37 = .ok (.aaload, 1) := by decide +kernel
theorem dX0_letLeave_38 : decode cX0_letLeave 38 = .ok (.getfield 156, 3) := by decide +kernel
theorem dX0_letLeave_41 : decode cX0_letLeave 41 = .ok (.istore_n 3, 1) := by decide +kernel
theorem dX0_letLeave_42 : decode cX0_letLeave 42 = .ok (.aload_n 0, 1) := by decide +kernel
theorem dX0_letLeave_43 : decode cX0_letLeave 43 = .ok (.getfield 51, 3) := by decide +kernel
theorem dX0_letLeave_46 : decode cX0_letLeave 46 = .ok (.aload_n 0, 1) := by decide +kernel
theorem dX0_letLeave_47 : decode cX0_letLeave 47 = .ok (.getfield 15, 3) := by decide +kernel
theorem dX0_letLeave_50 : decode cX0_letLeave 50 = .ok (.iload_n 3, 1) := by decide +kernel
theorem dX0_letLeave_51 : decode cX0_letLeave 51 = .ok (.iaload, 1) := by decide +kernel
theorem dX0_letLeave_52 : decode cX0_letLeave 52 = .ok (.isub, 1) := by decide +kernel
theorem dX0_letLeave_53 : decode cX0_letLeave 53 = .ok (.istore 4, 2) := by decide +kernel
theorem dX0_letLeave_55 : decode cX0_letLeave 55 = .ok (.iload_n 1, 1) := by decide +kernel
theorem dX0_letLeave_56 : decode cX0_letLeave 56 = .ok (.iload_n 3, 1) := by decide +kernel
theorem dX0_letLeave_57 : decode cX0_letLeave 57 = .ok (.ishr, 1) := by decide +kernel
theorem dX0_letLeave_58 : decode cX0_letLeave 58 = .ok (.iconst 1, 1) := by decide +kernel
theorem dX0_letLeave_59 : decode cX0_letLeave 59 = .ok (.iand, 1) := by decide +kernel
theorem dX0_letLeave_60 : decode cX0_letLeave 60 = .ok (.ifCond .ne 47, 3) := by decide +kernel
theorem dX0_letLeave_63 : decode cX0_letLeave 63 = .ok (.aload_n 0, 1) := by decide +kernel
theorem dX0_letLeave_64 : decode cX0_letLeave 64 = .ok (.iload 4, 2) := by decide +kernel
theorem dX0_letLeave_66 : decode cX0_letLeave 66 = .ok (.aload_n 0, 1) := by decide +kernel
theorem dX0_letLeave_67 : decode cX0_letLeave 67 = .ok (.getfield 18, 3) := by decide +kernel
theorem dX0_letLeave_70 : decode cX0_letLeave 70 = .ok (.iload_n 3, 1) := by decide +kernel
theorem dX0_letLeave_71 : decode cX0_letLeave 71 = .ok (.iaload, 1) := by decide +kernel
theorem dX0_letLeave_72 : decode cX0_letLeave 72 = .ok (.iconst 0, 1) := by decide +kernel
theorem dX0_letLeave_73 : decode cX0_letLeave 73 = .ok (.invokevirtual 125, 3) := by decide +kernel
theorem dX0_letLeave_76 : decode cX0_letLeave 76 = .ok (.aload_n 0, 1) := by decide +kernel
theorem dX0_letLeave_77 : decode cX0_letLeave 77 = .ok (.getfield 21, 3) := by decide +kernel
theorem dX0_letLeave_80 : decode cX0_letLeave 80 = .ok (.iload_n 3, 1) := by decide +kernel
theorem dX0_letLeave_81 : decode cX0_letLeave 81 = .ok (.aload_n 0, 1) := by decide +kernel
theorem dX0_letLeave_82 : decode cX0_letLeave 82 = .ok (.getfield 34, 3) := by decide +kernel
theorem dX0_letLeave_85 : decode cX0_letLeave 85 = .ok (.iconst 0, 1) := by decide +kernel
theorem dX0_letLeave_86 : decode cX0_letLeave 86 = .ok (.aload_n 0, 1) := by decide +kernel
theorem dX0_letLeave_87 : decode cX0_letLeave 87 = .ok (.getfield 9, 3) := by decide +kernel
theorem dX0_letLeave_90 : decode cX0_letLeave 90 = .ok (.invokevirtual 131, 3) := by decide +kernel
theorem dX0_letLeave_93 : decode cX0_letLeave 93 = .ok (.bipush (-99), 2) := by decide +kernel
theorem dX0_letLeave_95 : decode cX0_letLeave 95 = .ok (.bipush 99, 2) := by decide +kernel
theorem dX0_letLeave_97 : decode cX0_letLeave 97 = .ok (.invokestatic 118, 3) := by decide +kernel
theorem dX0_letLeave_100 : decode cX0_letLeave 100 = .ok (.iastore, 1) := by decide +kernel
theorem dX0_letLeave_101 : decode cX0_letLeave 101 = .ok (.iload_n 1, 1) := by decide +kernel
theorem dX0_letLeave_102 : decode cX0_letLeave 102 = .ok (.iconst 1, 1) := by decide +kernel
theorem dX0_letLeave_103 : decode cX0_letLeave 103 = .ok (.iload_n 3, 1) := by decide +kernel
theorem dX0_letLeave_104 : decode cX0_letLeave 104 = .ok (.ishl, 1) := by decide +kernel
theorem dX0_letLeave_105 : decode cX0_letLeave 105 = .ok (.ior, 1) := by decide +kernel
theorem dX0_letLeave_106 : decode cX0_letLeave 106 = .ok (.istore_n 1, 1) := by decide +kernel
theorem dX0_letLeave_107 : decode cX0_letLeave 107 = .ok (.iload 4, 2) := by decide +kernel
theorem dX0_letLeave_109 : decode cX0_letLeave 109 = .ok (.aload_n 0, 1) := by decide +kernel
theorem dX0_letLeave_110 : decode cX0_letLeave 110 = .ok (.getfield 30, 3) := by decide +kernel
theorem dX0_letLeave_113 : decode cX0_letLeave 113 = .ok (.getfield 152, 3) := by decide +kernel
theorem dX0_letLeave_116 : decode cX0_letLeave 116 = .ok (.iload_n 2, 1) := by decide +kernel
theorem dX0_letLeave_117 : decode cX0_letLeave 117 = .ok (.aaload, 1) := by decide +kernel
theorem dX0_letLeave_118 : decode cX0_letLeave 118 = .ok (.getfield 161, 3) := by decide +kernel
theorem dX0_letLeave_121 : decode cX0_letLeave 121 = .ok (.aload_n 0, 1) := by decide +kernel
theorem dX0_letLeave_122 : decode cX0_letLeave 122 = .ok (.getfield 21, 3) := by decide +kernel
theorem dX0_letLeave_125 : decode cX0_letLeave 125 = .ok (.iload_n 3, 1) := by decide +kernel
theorem dX0_letLeave_126 : decode cX0_letLeave 126 = .ok (.iaload, 1) := by decide +kernel
theorem dX0_letLeave_127 : decode cX0_letLeave 127 = .ok (.iadd, 1) := by decide +kernel
theorem dX0_letLeave_128 : decode cX0_letLeave 128 = .ok (.if_icmp .le 27, 3) := by decide +kernel
theorem dX0_letLeave_131 : decode cX0_letLeave 131 = .ok (.aload_n 0, 1) := by decide +kernel
theorem dX0_letLeave_132 : decode cX0_letLeave 132 = .ok (.dup, 1) := by decide +kernel
theorem dX0_letLeave_133 : decode cX0_letLeave 133 = .ok (.getfield 72, 3) := by decide +kernel
theorem dX0_letLeave_136 : decode cX0_letLeave 136 = .ok (.iconst 1, 1) := by decide +kernel
theorem dX0_letLeave_137 : decode cX0_letLeave 137 = .ok (.iload_n 2, 1) := by decide +kernel
theorem dX0_letLeave_138 : decode cX0_letLeave 138 = .ok (.ishl, 1) := by decide +kernel
theorem dX0_letLeave_139 : decode cX0_letLeave 139 = .ok (.iconst (-1), 1) := by decide +kernel
theorem dX0_letLeave_140 : decode cX0_letLeave 140 = .ok (.ixor, 1) := by decide +kernel
theorem dX0_letLeave_141 : decode cX0_letLeave 141 = .ok (.iand, 1) := by decide +kernel
theorem dX0_letLeave_142 : decode cX0_letLeave 142 = .ok (.putfield 72, 3) := by decide +kernel
theorem dX0_letLeave_145 : decode cX0_letLeave 145 = .ok (.aload_n 0, 1) := by decide +kernel
theorem dX0_letLeave_146 : decode cX0_letLeave 146 = .ok (.dup, 1) := by decide +kernel
theorem dX0_letLeave_147 : decode cX0_letLeave 147 = .ok (.getfield 63, 3) := by decide +kernel
theorem dX0_letLeave_150 : decode cX0_letLeave 150 = .ok (.iconst 1, 1) := by decide +kernel
theorem dX0_letLeave_151 : decode cX0_letLeave 151 = .ok (.iadd, 1) := by decide +kernel
theorem dX0_letLeave_152 : decode cX0_letLeave 152 = .ok (.putfield 63, 3) := by decide +kernel
theorem dX0_letLeave_155 : decode cX0_letLeave 155 = .ok (.iinc 2 1, 3) := by decide +kernel
theorem dX0_letLeave_158 : decode cX0_letLeave 158 = .ok (.goto (-154), 3) := by decide +kernel
theorem dX0_letLeave_161 : decode cX0_letLeave 161 = .ok (.return_, 1) := by decide +kernel
theorem dX0_callRow_0 : decode cX0_callRow 0 = .ok (.ldc 164, 2) := by decide +kernel
theorem dX0_callRow_2 : decode cX0_callRow 2 = .ok (.istore_n 2, 1) := by decide +kernel
theorem dX0_callRow_3 : decode cX0_callRow 3 = .ok (.iload_n 2, 1) := by decide +kernel
theorem dX0_callRow_4 : decode cX0_callRow 4 = .ok (.ifCond .le 23, 3) := by decide +kernel
theorem dX0_callRow_7 : decode cX0_callRow 7 = .ok (.aload_n 0, 1) := by decide +kernel
theorem dX0_callRow_8 : decode cX0_callRow 8 = .ok (.iload_n 1, 1) := by decide +kernel
theorem dX0_callRow_9 : decode cX0_callRow 9 = .ok (.iload_n 2, 1) := by decide +kernel
theorem dX0_callRow_10 : decode cX0_callRow 10 = .ok (.idiv, 1) := by decide +kernel
theorem dX0_callRow_11 : decode cX0_callRow 11 = .ok (.bipush 10, 2) := by decide +kernel
theorem dX0_callRow_13 : decode cX0_callRow 13 = .ok (.irem, 1) := by decide +kernel
theorem dX0_callRow_14 : decode cX0_callRow 14 = .ok (.iconst 1, 1) := by decide +kernel
theorem dX0_callRow_15 : decode cX0_callRow 15 = .ok (.isub, 1) := by decide +kernel
theorem dX0_callRow_16 : decode cX0_callRow 16 = .ok (.invokevirtual 165, 3) := by decide +kernel
theorem dX0_callRow_19 : decode cX0_callRow 19 = .ok (.iload_n 2, 1) := by decide +kernel
theorem dX0_callRow_20 : decode cX0_callRow 20 = .ok (.bipush 10, 2) := by decide +kernel
theorem dX0_callRow_22 : decode cX0_callRow 22 = .ok (.idiv, 1) := by decide +kernel
theorem dX0_callRow_23 : decode cX0_callRow 23 = .ok (.istore_n 2, 1) := by decide +kernel
theorem dX0_callRow_24 : decode cX0_callRow 24 = .ok (.goto (-21), 3) := by decide +kernel
theorem dX0_callRow_27 : decode cX0_callRow 27 = .ok (.return_, 1) := by decide +kernel
theorem dX0_callByDesk_0 : decode cX0_callByDesk 0 = .ok (.iconst 0, 1) := by decide +kernel
theorem dX0_callByDesk_1 : decode cX0_callByDesk 1 = .ok (.istore_n 1, 1) := by decide +kernel
theorem dX0_callByDesk_2 : decode cX0_callByDesk 2 = .ok (.iload_n 1, 1) := by decide +kernel
theorem dX0_callByDesk_3 : decode cX0_callByDesk 3 = .ok (.bipush 7, 2) := by decide +kernel
theorem dX0_callByDesk_5 : decode cX0_callByDesk 5 = .ok (.if_icmp .ge 17, 3) := by decide +kernel
theorem dX0_callByDesk_8 : decode cX0_callByDesk 8 = .ok (.aload_n 0, 1) := by decide +kernel
theorem dX0_callByDesk_9 : decode cX0_callByDesk 9 = .ok (.aload_n 0, 1) := by decide +kernel
theorem dX0_callByDesk_10 : decode cX0_callByDesk 10 = .ok (.invokevirtual 169, 3) := by decide +kernel
theorem dX0_callByDesk_13 : decode cX0_callByDesk 13 = .ok (.invokevirtual 165, 3) := by decide +kernel
theorem dX0_callByDesk_16 : decode cX0_callByDesk 16 = .ok (.iinc 1 1, 3) := by decide +kernel
theorem dX0_callByDesk_19 : decode cX0_callByDesk 19 = .ok (.goto (-17), 3) := by decide +kernel
theorem dX0_callByDesk_22 : decode cX0_callByDesk 22 = .ok (.return_, 1) := by decide +kernel
theorem dX0_firstByDesk_0 : decode cX0_firstByDesk 0 = .ok (.iconst (-1), 1) := by decide +kernel
theorem dX0_firstByDesk_1 : decode cX0_firstByDesk 1 = .ok (.istore_n 1, 1) := by decide +kernel
theorem dX0_firstByDesk_2 : decode cX0_firstByDesk 2 = .ok (.iconst 0, 1) := by decide +kernel
theorem dX0_firstByDesk_3 : decode cX0_firstByDesk 3 = .ok (.istore_n 2, 1) := by decide +kernel
theorem dX0_firstByDesk_4 : decode cX0_firstByDesk 4 = .ok (.iconst 0, 1) := by decide +kernel
theorem dX0_firstByDesk_5 : decode cX0_firstByDesk 5 = .ok (.istore_n 3, 1) := by decide +kernel
theorem dX0_firstByDesk_6 : decode cX0_firstByDesk 6 = .ok (.iload_n 3, 1) := by decide +kernel
theorem dX0_firstByDesk_7 : decode cX0_firstByDesk 7 = .ok (.aload_n 0, 1) := by decide +kernel
theorem dX0_firstByDesk_8 : decode cX0_firstByDesk 8 = .ok (.getfield 30, 3) := by decide +kernel
theorem dX0_firstByDesk_11 : decode cX0_firstByDesk 11 = .ok (.getfield 172, 3) := by decide +kernel
theorem dX0_firstByDesk_14 : decode cX0_firstByDesk 14 = .ok (.if_icmp .ge 108, 3) := by decide +kernel
theorem dX0_firstByDesk_17 : decode cX0_firstByDesk 17 = .ok (.aload_n 0, 1) := by decide +kernel
theorem dX0_firstByDesk_18 : decode cX0_firstByDesk 18 = .ok (.iload_n 3, 1) := by decide +kernel
theorem dX0_firstByDesk_19 : decode cX0_firstByDesk 19 = .ok (.invokevirtual 104, 3) := by decide +kernel
theorem dX0_firstByDesk_22 : decode cX0_firstByDesk 22 = .ok (.ifCond .ne 94, 3) := by decide +kernel
theorem dX0_firstByDesk_25 : decode cX0_firstByDesk 25 = .ok (.aload_n 0, 1) := by decide +kernel
theorem dX0_firstByDesk_26 : decode cX0_firstByDesk 26 = .ok (.iload_n 3, 1) := by decide +kernel
theorem dX0_firstByDesk_27 : decode cX0_firstByDesk 27 = .ok (.invokevirtual 107, 3) := by decide +kernel
theorem dX0_firstByDesk_30 : decode cX0_firstByDesk 30 = .ok (.ifCond .ne 6, 3) := by decide +kernel
theorem dX0_firstByDesk_33 : decode cX0_firstByDesk 33 = .ok (.goto 83, 3) := by decide +kernel
theorem dX0_firstByDesk_36 : decode cX0_firstByDesk 36 = .ok (.aload_n 0, 1) := by decide +kernel
theorem dX0_firstByDesk_37 : decode cX0_firstByDesk 37 = .ok (.getfield 30, 3) := by decide +kernel
theorem dX0_firstByDesk_40 : decode cX0_firstByDesk 40 = .ok (.getfield 89, 3) := by decide +kernel
theorem dX0_firstByDesk_43 : decode cX0_firstByDesk 43 = .ok (.iload_n 3, 1) := by decide +kernel
theorem dX0_firstByDesk_44 : decode cX0_firstByDesk 44 = .ok (.aaload, 1) := by decide +kernel
theorem dX0_firstByDesk_45 : decode cX0_firstByDesk 45 = .ok (.astore 4, 2) := by decide +kernel
theorem dX0_firstByDesk_47 : decode cX0_firstByDesk 47 = .ok (.aload_n 0, 1) := by decide +kernel
theorem dX0_firstByDesk_48 : decode cX0_firstByDesk 48 = .ok (.getfield 30, 3) := by decide +kernel
theorem dX0_firstByDesk_51 : decode cX0_firstByDesk 51 = .ok (.aload 4, 2) := by decide +kernel
theorem dX0_firstByDesk_53 : decode cX0_firstByDesk 53 = .ok (.invokevirtual 110, 3) := by decide +kernel
theorem dX0_firstByDesk_56 : decode cX0_firstByDesk 56 = .ok (.istore 5, 2) := by decide +kernel
theorem dX0_firstByDesk_58 : decode cX0_firstByDesk 58 = .ok (.aload_n 0, 1) := by decide +kernel
theorem dX0_firstByDesk_59 : decode cX0_firstByDesk 59 = .ok (.aload_n 0, 1) := by decide +kernel
theorem dX0_firstByDesk_60 : decode cX0_firstByDesk 60 = .ok (.getfield 51, 3) := by decide +kernel
theorem dX0_firstByDesk_63 : decode cX0_firstByDesk 63 = .ok (.aload_n 0, 1) := by decide +kernel
theorem dX0_firstByDesk_64 : decode cX0_firstByDesk 64 = .ok (.getfield 15, 3) := by decide +kernel
theorem dX0_firstByDesk_67 : decode cX0_firstByDesk 67 = .ok (.iload 5, 2) := by decide +kernel
theorem dX0_firstByDesk_69 : decode cX0_firstByDesk 69 = .ok (.iaload, 1) := by decide +kernel
theorem dX0_firstByDesk_70 : decode cX0_firstByDesk 70 = .ok (.isub, 1) := by decide +kernel
theorem dX0_firstByDesk_71 : decode cX0_firstByDesk 71 = .ok (.aload_n 0, 1) := by decide +kernel
theorem dX0_firstByDesk_72 : decode cX0_firstByDesk 72 = .ok (.getfield 18, 3) := by decide +kernel
theorem dX0_firstByDesk_75 : decode cX0_firstByDesk 75 = .ok (.iload 5, 2) := by decide +kernel
theorem dX0_firstByDesk_77 : decode cX0_firstByDesk 77 = .ok (.iaload, 1) := by decide +kernel
theorem dX0_firstByDesk_78 : decode cX0_firstByDesk 78 = .ok (.aload 4, 2) := by decide +kernel
theorem dX0_firstByDesk_80 : decode cX0_firstByDesk 80 = .ok (.getfield 122, 3) := by decide +kernel
theorem dX0_firstByDesk_83 : decode cX0_firstByDesk 83 = .ok (.invokevirtual 125, 3) := by decide +kernel
theorem dX0_firstByDesk_86 : decode cX0_firstByDesk 86 = .ok (.aload_n 0, 1) := by decide +kernel
theorem dX0_firstByDesk_87 : decode cX0_firstByDesk 87 = .ok (.getfield 34, 3) := by decide +kernel
theorem dX0_firstByDesk_90 : decode cX0_firstByDesk 90 = .ok (.iconst 2, 1) := by decide +kernel
theorem dX0_firstByDesk_91 : decode cX0_firstByDesk 91 = .ok (.aload_n 0, 1) := by decide +kernel
theorem dX0_firstByDesk_92 : decode cX0_firstByDesk 92 = .ok (.getfield 9, 3) := by decide +kernel
theorem dX0_firstByDesk_95 : decode cX0_firstByDesk 95 = .ok (.invokevirtual 131, 3) := by decide +kernel
theorem dX0_firstByDesk_98 : decode cX0_firstByDesk 98 = .ok (.istore 6, 2) := by decide +kernel
theorem dX0_firstByDesk_100 : decode cX0_firstByDesk 100 = .ok (.iload_n 1, 1) := by decide +kernel
theorem dX0_firstByDesk_101 : decode cX0_firstByDesk 101 = .ok (.iconst (-1), 1) := by decide +kernel
theorem dX0_firstByDesk_102 : decode cX0_firstByDesk 102 = .ok (.if_icmp .eq 9, 3) := by decide +kernel
theorem dX0_firstByDesk_105 : decode cX0_firstByDesk 105 = .ok (.iload 6, 2) := by decide +kernel
theorem dX0_firstByDesk_107 : decode cX0_firstByDesk 107 = .ok (.iload_n 2, 1) := by decide +kernel
theorem dX0_firstByDesk_108 : decode cX0_firstByDesk 108 = .ok (.if_icmp .le 8, 3) := by decide +kernel
theorem dX0_firstByDesk_111 : decode cX0_firstByDesk 111 = .ok (.iload_n 3, 1) := by decide +kernel
theorem dX0_firstByDesk_112 : decode cX0_firstByDesk 112 = .ok (.istore_n 1, 1) := by decide +kernel
theorem dX0_firstByDesk_113 : decode cX0_firstByDesk 113 = .ok (.iload 6, 2) := by decide +kernel
theorem dX0_firstByDesk_115 : decode cX0_firstByDesk 115 = .ok (.istore_n 2, 1) := by decide +kernel
theorem dX0_firstByDesk_116 : decode cX0_firstByDesk 116 = .ok (.iinc 3 1, 3) := by decide +kernel
theorem dX0_firstByDesk_119 : decode cX0_firstByDesk 119 = .ok (.goto (-113), 3) := by decide +kernel
theorem dX0_firstByDesk_122 : decode cX0_firstByDesk 122 = .ok (.iload_n 1, 1) := by decide +kernel
theorem dX0_firstByDesk_123 : decode cX0_firstByDesk 123 = .ok (.ireturn, 1) := by decide +kernel
theorem dX0_callByChance_0 : decode cX0_callByChance 0 = .ok (.iload_n 1, 1) := by decide +kernel
theorem dX0_callByChance_1 : decode cX0_callByChance 1 = .ok (.istore_n 2, 1) := by decide +kernel
theorem dX0_callByChance_2 : decode cX0_callByChance 2 = .ok (.aload_n 0, 1) := by decide +kernel
theorem dX0_callByChance_3 : decode cX0_callByChance 3 = .ok (.getfield 30, 3) := by decide +kernel
theorem dX0_callByChance_6 : decode cX0_callByChance 6 = .ok (.getfield 172, 3) := by decide +kernel
theorem dX0_callByChance_9 : decode cX0_callByChance 9 = .ok (.istore_n 3, 1) := by decide +kernel
theorem dX0_callByChance_10 : decode cX0_callByChance 10 = .ok (.iload_n 3, 1) := by decide +kernel
theorem dX0_callByChance_11 : decode cX0_callByChance 11 = .ok (.ifCond .le 32, 3) := by decide +kernel
theorem dX0_callByChance_14 : decode cX0_callByChance 14 = .ok (.iload_n 2, 1) := by decide +kernel
theorem dX0_callByChance_15 : decode cX0_callByChance 15 = .ok (.ldc 175, 2) := by decide +kernel
theorem dX0_callByChance_17 : decode cX0_callByChance 17 = .ok (.imul, 1) := by decide +kernel
theorem dX0_callByChance_18 : decode cX0_callByChance 18 = .ok (.sipush 12345, 3) := by decide +kernel
theorem dX0_callByChance_21 : decode cX0_callByChance 21 = .ok (.iadd, 1) := by decide +kernel
theorem dX0_callByChance_22 : decode cX0_callByChance 22 = .ok (.istore_n 2, 1) := by decide +kernel
theorem dX0_callByChance_23 : decode cX0_callByChance 23 = .ok (.aload_n 0, 1) := by decide +kernel
theorem dX0_callByChance_24 : decode cX0_callByChance 24 = .ok (.aload_n 0, 1) := by decide +kernel
theorem dX0_callByChance_25 : decode cX0_callByChance 25 = .ok (.iload_n 2, 1) := by decide +kernel
theorem dX0_callByChance_26 : decode cX0_callByChance 26 = .ok (.bipush 9, 2) := by decide +kernel
theorem dX0_callByChance_28 : decode cX0_callByChance 28 = .ok (.iushr, 1) := by decide +kernel
theorem dX0_callByChance_29 : decode cX0_callByChance 29 = .ok (.iload_n 3, 1) := by decide +kernel
theorem dX0_callByChance_30 : decode cX0_callByChance 30 = .ok (.irem, 1) := by decide +kernel
theorem dX0_callByChance_31 : decode cX0_callByChance 31 = .ok (.invokevirtual 176, 3) := by decide +kernel
theorem dX0_callByChance_34 : decode cX0_callByChance 34 = .ok (.invokevirtual 165, 3) := by decide +kernel
theorem dX0_callByChance_37 : decode cX0_callByChance 37 = .ok (.iinc 3 (-1), 3) := by decide +kernel
theorem dX0_callByChance_40 : decode cX0_callByChance 40 = .ok (.goto (-30), 3) := by decide +kernel
theorem dX0_callByChance_43 : decode cX0_callByChance 43 = .ok (.return_, 1) := by decide +kernel
theorem dX0_uncalled_0 : decode cX0_uncalled 0 = .ok (.iload_n 1, 1) := by decide +kernel
theorem dX0_uncalled_1 : decode cX0_uncalled 1 = .ok (.istore_n 2, 1) := by decide +kernel
theorem dX0_uncalled_2 : decode cX0_uncalled 2 = .ok (.iconst 0, 1) := by decide +kernel
theorem dX0_uncalled_3 : decode cX0_uncalled 3 = .ok (.istore_n 3, 1) := by decide +kernel
theorem dX0_uncalled_4 : decode cX0_uncalled 4 = .ok (.iload_n 3, 1) := by decide +kernel
theorem dX0_uncalled_5 : decode cX0_uncalled 5 = .ok (.aload_n 0, 1) := by decide +kernel
theorem dX0_uncalled_6 : decode cX0_uncalled 6 = .ok (.getfield 30, 3) := by decide +kernel
theorem dX0_uncalled_9 : decode cX0_uncalled 9 = .ok (.getfield 172, 3) := by decide +kernel
theorem dX0_uncalled_12 : decode cX0_uncalled 12 = .ok (.if_icmp .ge 29, 3) := by decide +kernel
theorem dX0_uncalled_15 : decode cX0_uncalled 15 = .ok (.aload_n 0, 1) := by decide +kernel
theorem dX0_uncalled_16 : decode cX0_uncalled 16 = .ok (.iload_n 3, 1) := by decide +kernel
theorem dX0_uncalled_17 : decode cX0_uncalled 17 = .ok (.invokevirtual 104, 3) := by decide +kernel
theorem dX0_uncalled_20 : decode cX0_uncalled 20 = .ok (.ifCond .eq 6, 3) := by decide +kernel
theorem dX0_uncalled_23 : decode cX0_uncalled 23 = .ok (.goto 12, 3) := by decide +kernel
theorem dX0_uncalled_26 : decode cX0_uncalled 26 = .ok (.iload_n 2, 1) := by decide +kernel
theorem dX0_uncalled_27 : decode cX0_uncalled 27 = .ok (.ifCond .ne 5, 3) := by decide +kernel
theorem dX0_uncalled_30 : decode cX0_uncalled 30 = .ok (.iload_n 3, 1) := by decide +kernel
theorem dX0_uncalled_31 : decode cX0_uncalled 31 = .ok (.ireturn, 1) := by decide +kernel
theorem dX0_uncalled_32 : decode cX0_uncalled 32 = .ok (.iinc 2 (-1), 3) := by decide +kernel
theorem dX0_uncalled_35 : decode cX0_uncalled 35 = .ok (.iinc 3 1, 3) := by decide +kernel
theorem dX0_uncalled_38 : decode cX0_uncalled 38 = .ok (.goto (-34), 3) := by decide +kernel
theorem dX0_uncalled_41 : decode cX0_uncalled 41 = .ok (.iconst (-1), 1) := by decide +kernel
theorem dX0_uncalled_42 : decode cX0_uncalled 42 = .ok (.ireturn, 1) := by decide +kernel
