theorem dX4_init_0 : decode cX4_init 0 = .ok (.aload_n 0, 1) := by decide +kernel
theorem dX4_init_1 : decode cX4_init 1 = .ok (.invokespecial 3, 3) := by decide +kernel
theorem dX4_init_4 : decode cX4_init 4 = .ok (.aload_n 0, 1) := by decide +kernel
theorem dX4_init_5 : decode cX4_init 5 = .ok (.bipush 8, 2) := by decide +kernel
theorem dX4_init_7 : decode cX4_init 7 = .ok (.anewarray 9, 3) := by decide +kernel
theorem dX4_init_10 : decode cX4_init 10 = .ok (.putfield 11, 3) := by decide +kernel
theorem dX4_init_13 : decode cX4_init 13 = .ok (.aload_n 0, 1) := by decide +kernel
theorem dX4_init_14 : decode cX4_init 14 = .ok (.iconst 2, 1) := by decide +kernel
theorem dX4_init_15 : decode cX4_init 15 = .ok (.newarray .int, 2) := by decide +kernel
theorem dX4_init_17 : decode cX4_init 17 = .ok (.putfield 17, 3) := by decide +kernel
theorem dX4_init_20 : decode cX4_init 20 = .ok (.aload_n 0, 1) := by decide +kernel
theorem dX4_init_21 : decode cX4_init 21 = .ok (.iconst 2, 1) := by decide +kernel
theorem dX4_init_22 : decode cX4_init 22 = .ok (.newarray .int, 2) := by decide +kernel
theorem dX4_init_24 : decode cX4_init 24 = .ok (.putfield 21, 3) := by decide +kernel
theorem dX4_init_27 : decode cX4_init 27 = .ok (.aload_n 0, 1) := by decide +kernel
theorem dX4_init_28 : decode cX4_init 28 = .ok (.iconst 2, 1) := by decide +kernel
theorem dX4_init_29 : decode cX4_init 29 = .ok (.newarray .int, 2) := by decide +kernel
theorem dX4_init_31 : decode cX4_init 31 = .ok (.putfield 24, 3) := by decide +kernel
theorem dX4_init_34 : decode cX4_init 34 = .ok (.aload_n 0, 1) := by decide +kernel
theorem dX4_init_35 : decode cX4_init 35 = .ok (.iconst 2, 1) := by decide +kernel
theorem dX4_init_36 : decode cX4_init 36 = .ok (.newarray .int, 2) := by decide +kernel
theorem dX4_init_38 : decode cX4_init 38 = .ok (.putfield 27, 3) := by decide +kernel
theorem dX4_init_41 : decode cX4_init 41 = .ok (.aload_n 0, 1) := by decide +kernel
theorem dX4_init_42 : decode cX4_init 42 = .ok (.iconst (-1), 1) := by decide +kernel
theorem dX4_init_43 : decode cX4_init 43 = .ok (.putfield 30, 3) := by decide +kernel
theorem dX4_init_46 : decode cX4_init 46 = .ok (.aload_n 0, 1) := by decide +kernel
theorem dX4_init_47 : decode cX4_init 47 = .ok (.aload_n 1, 1) := by decide +kernel
theorem dX4_init_48 : decode cX4_init 48 = .ok (.putfield 34, 3) := by decide +kernel
theorem dX4_init_51 : decode cX4_init 51 = .ok (.iconst 0, 1) := by decide +kernel
theorem dX4_init_52 : decode cX4_init 52 = .ok (.istore_n 2, 1) := by decide +kernel
theorem dX4_init_53 : decode cX4_init 53 = .ok (.iload_n 2, 1) := by decide +kernel
theorem dX4_init_54 : decode cX4_init 54 = .ok (.bipush 7, 2) := by decide +kernel
theorem dX4_init_56 : decode cX4_init 56 = .ok (.if_icmp .gt 23, 3) := by decide +kernel
theorem dX4_init_59 : decode cX4_init 59 = .ok (.aload_n 0, 1) := by decide +kernel
theorem dX4_init_60 : decode cX4_init 60 = .ok (.getfield 11, 3) := by decide +kernel
theorem dX4_init_63 : decode cX4_init 63 = .ok (.iload_n 2, 1) := by decide +kernel
theorem dX4_init_64 : decode cX4_init 64 = .ok (.new 9, 3) := by decide +kernel
theorem dX4_init_67 : decode cX4_init 67 = .ok (.dup, 1) := by decide +kernel
theorem dX4_init_68 : decode cX4_init 68 = .ok (.aload_n 1, 1) := by decide +kernel
theorem dX4_init_69 : decode cX4_init 69 = .ok (.invokespecial 38, 3) := by decide +kernel
theorem dX4_init_72 : decode cX4_init 72 = .ok (.aastore, 1) := by decide +kernel
theorem dX4_init_73 : decode cX4_init 73 = .ok (.iinc 2 1, 3) := by decide +kernel
theorem dX4_init_76 : decode cX4_init 76 = .ok (.goto (-23), 3) := by decide +kernel
theorem dX4_init_79 : decode cX4_init 79 = .ok (.return_, 1) := by decide +kernel
theorem dX4_look_0 : decode cX4_look 0 = .ok (.aload_n 0, 1) := by decide +kernel
theorem dX4_look_1 : decode cX4_look 1 = .ok (.getfield 30, 3) := by decide +kernel
theorem dX4_look_4 : decode cX4_look 4 = .ok (.aload_n 0, 1) := by decide +kernel
theorem dX4_look_5 : decode cX4_look 5 = .ok (.getfield 34, 3) := by decide +kernel
theorem dX4_look_8 : decode cX4_look 8 = .ok (.getfield 41, 3) := by decide +kernel
theorem dX4_look_11 : decode cX4_look 11 = .ok (.if_icmp .ne 4, 3) := by decide +kernel
theorem dX4_look_14 : decode cX4_look 14 = .ok (.return_, 1) := by decide +kernel
theorem dX4_look_15 : decode cX4_look 15 = .ok (.aload_n 0, 1) := by decide +kernel
theorem dX4_look_16 : decode cX4_look 16 = .ok (.aload_n 0, 1) := by decide +kernel
theorem dX4_look_17 : decode cX4_look 17 = .ok (.getfield 34, 3) := by decide +kernel
theorem dX4_look_20 : decode cX4_look 20 = .ok (.getfield 41, 3) := by decide +kernel
theorem dX4_look_23 : decode cX4_look 23 = .ok (.putfield 30, 3) := by decide +kernel
theorem dX4_look_26 : decode cX4_look 26 = .ok (.aload_n 0, 1) := by decide +kernel
theorem dX4_look_27 : decode cX4_look 27 = .ok (.getfield 11, 3) := by decide +kernel
theorem dX4_look_30 : decode cX4_look 30 = .ok (.iconst 0, 1) := by decide +kernel
theorem dX4_look_31 : decode cX4_look 31 = .ok (.aaload, 1) := by decide +kernel
theorem dX4_look_32 : decode cX4_look 32 = .ok (.aload_n 1, 1) := by decide +kernel
theorem dX4_look_33 : decode cX4_look 33 = .ok (.invokevirtual 46, 3) := by decide +kernel
theorem dX4_look_36 : decode cX4_look 36 = .ok (.aload_n 0, 1) := by decide +kernel
theorem dX4_look_37 : decode cX4_look 37 = .ok (.iconst 0, 1) := by decide +kernel
theorem dX4_look_38 : decode cX4_look 38 = .ok (.aload_n 0, 1) := by decide +kernel
theorem dX4_look_39 : decode cX4_look 39 = .ok (.getfield 11, 3) := by decide +kernel
theorem dX4_look_42 : decode cX4_look 42 = .ok (.iconst 0, 1) := by decide +kernel
theorem dX4_look_43 : decode cX4_look 43 = .ok (.aaload, 1) := by decide +kernel
theorem dX4_look_44 : decode cX4_look 44 = .ok (.iconst 0, 1) := by decide +kernel
theorem dX4_look_45 : decode cX4_look 45 = .ok (.invokevirtual 50, 3) := by decide +kernel
theorem dX4_look_48 : decode cX4_look 48 = .ok (.aload_n 0, 1) := by decide +kernel
theorem dX4_look_49 : decode cX4_look 49 = .ok (.iconst 1, 1) := by decide +kernel
theorem dX4_look_50 : decode cX4_look 50 = .ok (.aload_n 0, 1) := by decide +kernel
theorem dX4_look_51 : decode cX4_look 51 = .ok (.getfield 11, 3) := by decide +kernel
theorem dX4_look_54 : decode cX4_look 54 = .ok (.iconst 0, 1) := by decide +kernel
theorem dX4_look_55 : decode cX4_look 55 = .ok (.aaload, 1) := by decide +kernel
theorem dX4_look_56 : decode cX4_look 56 = .ok (.iconst 0, 1) := by decide +kernel
theorem dX4_look_57 : decode cX4_look 57 = .ok (.invokevirtual 50, 3) := by decide +kernel
theorem dX4_look_60 : decode cX4_look 60 = .ok (.aload_n 0, 1) := by decide +kernel
theorem dX4_look_61 : decode cX4_look 61 = .ok (.iconst 0, 1) := by decide +kernel
theorem dX4_look_62 : decode cX4_look 62 = .ok (.iconst 0, 1) := by decide +kernel
theorem dX4_look_63 : decode cX4_look 63 = .ok (.invokevirtual 54, 3) := by decide +kernel
theorem dX4_look_66 : decode cX4_look 66 = .ok (.return_, 1) := by decide +kernel
theorem dX4_answer_0 : decode cX4_answer 0 = .ok (.iload_n 2, 1) := by decide +kernel
theorem dX4_answer_1 : decode cX4_answer 1 = .ok (.tableswitch 48 0 2 #[27, 34, 41], 27) := by decide +kernel
theorem dX4_answer_28 : decode cX4_answer 28 = .ok (.aload_n 0, 1) := by decide +kernel
theorem dX4_answer_29 : decode cX4_answer 29 = .ok (.getfield 17, 3) := by decide +kernel
theorem dX4_answer_32 : decode cX4_answer 32 = .ok (.iload_n 1, 1) := by decide +kernel
theorem dX4_answer_33 : decode cX4_answer 33 = .ok (.iaload, 1) := by decide +kernel
theorem dX4_answer_34 : decode cX4_answer 34 = .ok (.ireturn, 1) := by decide +kernel
theorem dX4_answer_35 : decode cX4_answer 35 = .ok (.aload_n 0, 1) := by decide +kernel
theorem dX4_answer_36 : decode cX4_answer 36 = .ok (.getfield 21, 3) := by decide +kernel
theorem dX4_answer_39 : decode cX4_answer 39 = .ok (.iload_n 1, 1) := by decide +kernel
theorem dX4_answer_40 : decode cX4_answer 40 = .ok (.iaload, 1) := by decide +kernel
theorem dX4_answer_41 : decode cX4_answer 41 = .ok (.ireturn, 1) := by decide +kernel
theorem dX4_answer_42 : decode cX4_answer 42 = .ok (.aload_n 0, 1) := by decide +kernel
theorem dX4_answer_43 : decode cX4_answer 43 = .ok (.getfield 24, 3) := by decide +kernel
theorem dX4_answer_46 : decode cX4_answer 46 = .ok (.iload_n 1, 1) := by decide +kernel
theorem dX4_answer_47 : decode cX4_answer 47 = .ok (.iaload, 1) := by decide +kernel
theorem dX4_answer_48 : decode cX4_answer 48 = .ok (.ireturn, 1) := by decide +kernel
theorem dX4_answer_49 : decode cX4_answer 49 = .ok (.aload_n 0, 1) := by decide +kernel
theorem dX4_answer_50 : decode cX4_answer 50 = .ok (.getfield 27, 3) := by decide +kernel
theorem dX4_answer_53 : decode cX4_answer 53 = .ok (.iload_n 1, 1) := by decide +kernel
theorem dX4_answer_54 : decode cX4_answer 54 = .ok (.iaload, 1) := by decide +kernel
theorem dX4_answer_55 : decode cX4_answer 55 = .ok (.ireturn, 1) := by decide +kernel
theorem dX4_note_0 : decode cX4_note 0 = .ok (.aload_n 0, 1) := by decide +kernel
theorem dX4_note_1 : decode cX4_note 1 = .ok (.getfield 17, 3) := by decide +kernel
theorem dX4_note_4 : decode cX4_note 4 = .ok (.iload_n 1, 1) := by decide +kernel
theorem dX4_note_5 : decode cX4_note 5 = .ok (.aload_n 2, 1) := by decide +kernel
theorem dX4_note_6 : decode cX4_note 6 = .ok (.getfield 58, 3) := by decide +kernel
theorem dX4_note_9 : decode cX4_note 9 = .ok (.iastore, 1) := by decide +kernel
theorem dX4_note_10 : decode cX4_note 10 = .ok (.aload_n 0, 1) := by decide +kernel
theorem dX4_note_11 : decode cX4_note 11 = .ok (.getfield 21, 3) := by decide +kernel
theorem dX4_note_14 : decode cX4_note 14 = .ok (.iload_n 1, 1) := by decide +kernel
theorem dX4_note_15 : decode cX4_note 15 = .ok (.aload_n 2, 1) := by decide +kernel
theorem dX4_note_16 : decode cX4_note 16 = .ok (.getfield 61, 3) := by decide +kernel
theorem dX4_note_19 : decode cX4_note 19 = .ok (.iastore, 1) := by decide +kernel
theorem dX4_note_20 : decode cX4_note 20 = .ok (.aload_n 0, 1) := by decide +kernel
theorem dX4_note_21 : decode cX4_note 21 = .ok (.getfield 24, 3) := by decide +kernel
theorem dX4_note_24 : decode cX4_note 24 = .ok (.iload_n 1, 1) := by decide +kernel
theorem dX4_note_25 : decode cX4_note 25 = .ok (.aload_n 2, 1) := by decide +kernel
theorem dX4_note_26 : decode cX4_note 26 = .ok (.getfield 63, 3) := by decide +kernel
theorem dX4_note_29 : decode cX4_note 29 = .ok (.iastore, 1) := by decide +kernel
theorem dX4_note_30 : decode cX4_note 30 = .ok (.aload_n 0, 1) := by decide +kernel
theorem dX4_note_31 : decode cX4_note 31 = .ok (.getfield 27, 3) := by decide +kernel
theorem dX4_note_34 : decode cX4_note 34 = .ok (.iload_n 1, 1) := by decide +kernel
theorem dX4_note_35 : decode cX4_note 35 = .ok (.iload_n 3, 1) := by decide +kernel
theorem dX4_note_36 : decode cX4_note 36 = .ok (.iastore, 1) := by decide +kernel
theorem dX4_note_37 : decode cX4_note 37 = .ok (.return_, 1) := by decide +kernel
theorem dX4_goOn_0 : decode cX4_goOn 0 = .ok (.iload_n 1, 1) := by decide +kernel
theorem dX4_goOn_1 : decode cX4_goOn 1 = .ok (.aload_n 0, 1) := by decide +kernel
theorem dX4_goOn_2 : decode cX4_goOn 2 = .ok (.getfield 34, 3) := by decide +kernel
theorem dX4_goOn_5 : decode cX4_goOn 5 = .ok (.getfield 65, 3) := by decide +kernel
theorem dX4_goOn_8 : decode cX4_goOn 8 = .ok (.if_icmp .lt 4, 3) := by decide +kernel
theorem dX4_goOn_11 : decode cX4_goOn 11 = .ok (.return_, 1) := by decide +kernel
theorem dX4_goOn_12 : decode cX4_goOn 12 = .ok (.aload_n 0, 1) := by decide +kernel
theorem dX4_goOn_13 : decode cX4_goOn 13 = .ok (.getfield 11, 3) := by decide +kernel
theorem dX4_goOn_16 : decode cX4_goOn 16 = .ok (.iload_n 1, 1) := by decide +kernel
theorem dX4_goOn_17 : decode cX4_goOn 17 = .ok (.iconst 1, 1) := by decide +kernel
theorem dX4_goOn_18 : decode cX4_goOn 18 = .ok (.iadd, 1) := by decide +kernel
theorem dX4_goOn_19 : decode cX4_goOn 19 = .ok (.aaload, 1) := by decide +kernel
theorem dX4_goOn_20 : decode cX4_goOn 20 = .ok (.astore_n 3, 1) := by decide +kernel
theorem dX4_goOn_21 : decode cX4_goOn 21 = .ok (.iconst 0, 1) := by decide +kernel
theorem dX4_goOn_22 : decode cX4_goOn 22 = .ok (.istore 4, 2) := by decide +kernel
theorem dX4_goOn_24 : decode cX4_goOn 24 = .ok (.iload 4, 2) := by decide +kernel
theorem dX4_goOn_26 : decode cX4_goOn 26 = .ok (.aload_n 0, 1) := by decide +kernel
theorem dX4_goOn_27 : decode cX4_goOn 27 = .ok (.getfield 34, 3) := by decide +kernel
theorem dX4_goOn_30 : decode cX4_goOn 30 = .ok (.getfield 65, 3) := by decide +kernel
theorem dX4_goOn_33 : decode cX4_goOn 33 = .ok (.if_icmp .ge 99, 3) := by decide +kernel
theorem dX4_goOn_36 : decode cX4_goOn 36 = .ok (.aload_n 0, 1) := by decide +kernel
theorem dX4_goOn_37 : decode cX4_goOn 37 = .ok (.getfield 11, 3) := by decide +kernel
theorem dX4_goOn_40 : decode cX4_goOn 40 = .ok (.iload_n 1, 1) := by decide +kernel
theorem dX4_goOn_41 : decode cX4_goOn 41 = .ok (.aaload, 1) := by decide +kernel
theorem dX4_goOn_42 : decode cX4_goOn 42 = .ok (.iload 4, 2) := by decide +kernel
theorem dX4_goOn_44 : decode cX4_goOn 44 = .ok (.invokevirtual 68, 3) := by decide +kernel
theorem dX4_goOn_47 : decode cX4_goOn 47 = .ok (.ifCond .eq 6, 3) := by decide +kernel
theorem dX4_goOn_50 : decode cX4_goOn 50 = .ok (.goto 76, 3) := by decide +kernel
theorem dX4_goOn_53 : decode cX4_goOn 53 = .ok (.aload_n 3, 1) := by decide +kernel
theorem dX4_goOn_54 : decode cX4_goOn 54 = .ok (.aload_n 0, 1) := by decide +kernel
theorem dX4_goOn_55 : decode cX4_goOn 55 = .ok (.getfield 11, 3) := by decide +kernel
theorem dX4_goOn_58 : decode cX4_goOn 58 = .ok (.iload_n 1, 1) := by decide +kernel
theorem dX4_goOn_59 : decode cX4_goOn 59 = .ok (.aaload, 1) := by decide +kernel
theorem dX4_goOn_60 : decode cX4_goOn 60 = .ok (.invokevirtual 72, 3) := by decide +kernel
theorem dX4_goOn_63 : decode cX4_goOn 63 = .ok (.aload_n 3, 1) := by decide +kernel
theorem dX4_goOn_64 : decode cX4_goOn 64 = .ok (.iload 4, 2) := by decide +kernel
theorem dX4_goOn_66 : decode cX4_goOn 66 = .ok (.invokevirtual 76, 3) := by decide +kernel
theorem dX4_goOn_69 : decode cX4_goOn 69 = .ok (.iload_n 2, 1) := by decide +kernel
theorem dX4_goOn_70 : decode cX4_goOn 70 = .ok (.bipush 10, 2) := by decide +kernel
theorem dX4_goOn_72 : decode cX4_goOn 72 = .ok (.imul, 1) := by decide +kernel
theorem dX4_goOn_73 : decode cX4_goOn 73 = .ok (.iload 4, 2) := by decide +kernel
theorem dX4_goOn_75 : decode cX4_goOn 75 = .ok (.iadd, 1) := by decide +kernel
theorem dX4_goOn_76 : decode cX4_goOn 76 = .ok (.iconst 1, 1) := by decide +kernel
theorem dX4_goOn_77 : decode cX4_goOn 77 = .ok (.iadd, 1) := by decide +kernel
theorem dX4_goOn_78 : decode cX4_goOn 78 = .ok (.istore 5, 2) := by decide +kernel
theorem dX4_goOn_80 : decode cX4_goOn 80 = .ok (.aload_n 3, 1) := by decide +kernel
theorem dX4_goOn_81 : decode cX4_goOn 81 = .ok (.getfield 58, 3) := by decide +kernel
theorem dX4_goOn_84 : decode cX4_goOn 84 = .ok (.aload_n 0, 1) := by decide +kernel
theorem dX4_goOn_85 : decode cX4_goOn 85 = .ok (.getfield 17, 3) := by decide +kernel
theorem dX4_goOn_88 : decode cX4_goOn 88 = .ok (.iconst 0, 1) := by decide +kernel
theorem dX4_goOn_89 : decode cX4_goOn 89 = .ok (.iaload, 1) := by decide +kernel
theorem dX4_goOn_90 : decode cX4_goOn 90 = .ok (.if_icmp .le 11, 3) := by decide +kernel
theorem dX4_goOn_93 : decode cX4_goOn 93 = .ok (.aload_n 0, 1) := by decide +kernel
theorem dX4_goOn_94 : decode cX4_goOn 94 = .ok (.iconst 0, 1) := by decide +kernel
theorem dX4_goOn_95 : decode cX4_goOn 95 = .ok (.aload_n 3, 1) := by decide +kernel
theorem dX4_goOn_96 : decode cX4_goOn 96 = .ok (.iload 5, 2) := by decide +kernel
theorem dX4_goOn_98 : decode cX4_goOn 98 = .ok (.invokevirtual 50, 3) := by decide +kernel
theorem dX4_goOn_101 : decode cX4_goOn 101 = .ok (.aload_n 0, 1) := by decide +kernel
theorem dX4_goOn_102 : decode cX4_goOn 102 = .ok (.aload_n 3, 1) := by decide +kernel
theorem dX4_goOn_103 : decode cX4_goOn 103 = .ok (.invokevirtual 80, 3) := by decide +kernel
theorem dX4_goOn_106 : decode cX4_goOn 106 = .ok (.ifCond .eq 11, 3) := by decide +kernel
theorem dX4_goOn_109 : decode cX4_goOn 109 = .ok (.aload_n 0, 1) := by decide +kernel
theorem dX4_goOn_110 : decode cX4_goOn 110 = .ok (.iconst 1, 1) := by decide +kernel
theorem dX4_goOn_111 : decode cX4_goOn 111 = .ok (.aload_n 3, 1) := by decide +kernel
theorem dX4_goOn_112 : decode cX4_goOn 112 = .ok (.iload 5, 2) := by decide +kernel
theorem dX4_goOn_114 : decode cX4_goOn 114 = .ok (.invokevirtual 50, 3) := by decide +kernel
theorem dX4_goOn_117 : decode cX4_goOn 117 = .ok (.aload_n 0, 1) := by decide +kernel
theorem dX4_goOn_118 : decode cX4_goOn 118 = .ok (.iload_n 1, 1) := by decide +kernel
theorem dX4_goOn_119 : decode cX4_goOn 119 = .ok (.iconst 1, 1) := by decide +kernel
theorem dX4_goOn_120 : decode cX4_goOn 120 = .ok (.iadd, 1) := by decide +kernel
theorem dX4_goOn_121 : decode cX4_goOn 121 = .ok (.iload 5, 2) := by decide +kernel
theorem dX4_goOn_123 : decode cX4_goOn 123 = .ok (.invokevirtual 54, 3) := by decide +kernel
theorem dX4_goOn_126 : decode cX4_goOn 126 = .ok (.iinc 4 1, 3) := by decide +kernel
theorem dX4_goOn_129 : decode cX4_goOn 129 = .ok (.goto (-105), 3) := by decide +kernel
theorem dX4_goOn_132 : decode cX4_goOn 132 = .ok (.return_, 1) := by decide +kernel
theorem dX4_losesFewer_0 : decode cX4_losesFewer 0 = .ok (.aload_n 1, 1) := by decide +kernel
theorem dX4_losesFewer_1 : decode cX4_losesFewer 1 = .ok (.getfield 61, 3) := by decide +kernel
theorem dX4_losesFewer_4 : decode cX4_losesFewer 4 = .ok (.aload_n 0, 1) := by decide +kernel
theorem dX4_losesFewer_5 : decode cX4_losesFewer 5 = .ok (.getfield 21, 3) := by decide +kernel
theorem dX4_losesFewer_8 : decode cX4_losesFewer 8 = .ok (.iconst 1, 1) := by decide +kernel
theorem dX4_losesFewer_9 : decode cX4_losesFewer 9 = .ok (.iaload, 1) := by decide +kernel
theorem dX4_losesFewer_10 : decode cX4_losesFewer 10 = .ok (.if_icmp .lt 29, 3) := by decide +kernel
theorem dX4_losesFewer_13 : decode cX4_losesFewer 13 = .ok (.aload_n 1, 1) := by decide +kernel
theorem dX4_losesFewer_14 : decode cX4_losesFewer 14 = .ok (.getfield 61, 3) := by decide +kernel
theorem dX4_losesFewer_17 : decode cX4_losesFewer 17 = .ok (.aload_n 0, 1) := by decide +kernel
theorem dX4_losesFewer_18 : decode cX4_losesFewer 18 = .ok (.getfield 21, 3) := by decide +kernel
theorem dX4_losesFewer_21 : decode cX4_losesFewer 21 = .ok (.iconst 1, 1) := by decide +kernel
theorem dX4_losesFewer_22 : decode cX4_losesFewer 22 = .ok (.iaload, 1) := by decide +kernel
theorem dX4_losesFewer_23 : decode cX4_losesFewer 23 = .ok (.if_icmp .ne 20, 3) := by decide +kernel
theorem dX4_losesFewer_26 : decode cX4_losesFewer 26 = .ok (.aload_n 1, 1) := by decide +kernel
theorem dX4_losesFewer_27 : decode cX4_losesFewer 27 = .ok (.getfield 63, 3) := by decide +kernel
theorem dX4_losesFewer_30 : decode cX4_losesFewer 30 = .ok (.aload_n 0, 1) := by decide +kernel
theorem dX4_losesFewer_31 : decode cX4_losesFewer 31 = .ok (.getfield 24, 3) := by decide +kernel
theorem dX4_losesFewer_34 : decode cX4_losesFewer 34 = .ok (.iconst 1, 1) := by decide +kernel
theorem dX4_losesFewer_35 : decode cX4_losesFewer 35 = .ok (.iaload, 1) := by decide +kernel
theorem dX4_losesFewer_36 : decode cX4_losesFewer 36 = .ok (.if_icmp .le 7, 3) := by decide +kernel
theorem dX4_losesFewer_39 : decode cX4_losesFewer 39 = .ok (.iconst 1, 1) := by decide +kernel
theorem dX4_losesFewer_40 : decode cX4_losesFewer 40 = .ok (.goto 4, 3) := by decide +kernel
theorem dX4_losesFewer_43 : decode cX4_losesFewer 43 = .ok (.iconst 0, 1) := by decide +kernel
theorem dX4_losesFewer_44 : decode cX4_losesFewer 44 = .ok (.ireturn, 1) := by decide +kernel
