theorem dX1_init_0 : decode cX1_init 0 = .ok (.aload_n 0, 1) := by decide +kernel
theorem dX1_init_1 : decode cX1_init 1 = .ok (.invokespecial 3, 3) := by decide +kernel
theorem dX1_init_4 : decode cX1_init 4 = .ok (.aload_n 0, 1) := by decide +kernel
theorem dX1_init_5 : decode cX1_init 5 = .ok (.bipush 8, 2) := by decide +kernel
theorem dX1_init_7 : decode cX1_init 7 = .ok (.anewarray 9, 3) := by decide +kernel
theorem dX1_init_10 : decode cX1_init 10 = .ok (.putfield 11, 3) := by decide +kernel
theorem dX1_init_13 : decode cX1_init 13 = .ok (.aload_n 0, 1) := by decide +kernel
theorem dX1_init_14 : decode cX1_init 14 = .ok (.bipush 7, 2) := by decide +kernel
theorem dX1_init_16 : decode cX1_init 16 = .ok (.anewarray 17, 3) := by decide +kernel
theorem dX1_init_19 : decode cX1_init 19 = .ok (.putfield 19, 3) := by decide +kernel
theorem dX1_init_22 : decode cX1_init 22 = .ok (.aload_n 0, 1) := by decide +kernel
theorem dX1_init_23 : decode cX1_init 23 = .ok (.bipush 60, 2) := by decide +kernel
theorem dX1_init_25 : decode cX1_init 25 = .ok (.putfield 23, 3) := by decide +kernel
theorem dX1_init_28 : decode cX1_init 28 = .ok (.iconst 0, 1) := by decide +kernel
theorem dX1_init_29 : decode cX1_init 29 = .ok (.istore_n 1, 1) := by decide +kernel
theorem dX1_init_30 : decode cX1_init 30 = .ok (.iload_n 1, 1) := by decide +kernel
theorem dX1_init_31 : decode cX1_init 31 = .ok (.bipush 8, 2) := by decide +kernel
theorem dX1_init_33 : decode cX1_init 33 = .ok (.if_icmp .ge 22, 3) := by decide +kernel
theorem dX1_init_36 : decode cX1_init 36 = .ok (.aload_n 0, 1) := by decide +kernel
theorem dX1_init_37 : decode cX1_init 37 = .ok (.getfield 11, 3) := by decide +kernel
theorem dX1_init_40 : decode cX1_init 40 = .ok (.iload_n 1, 1) := by decide +kernel
theorem dX1_init_41 : decode cX1_init 41 = .ok (.new 9, 3) := by decide +kernel
theorem dX1_init_44 : decode cX1_init 44 = .ok (.dup, 1) := by decide +kernel
theorem dX1_init_45 : decode cX1_init 45 = .ok (.invokespecial 27, 3) := by decide +kernel
theorem dX1_init_48 : decode cX1_init 48 = .ok (.aastore, 1) := by decide +kernel
theorem dX1_init_49 : decode cX1_init 49 = .ok (.iinc 1 1, 3) := by decide +kernel
theorem dX1_init_52 : decode cX1_init 52 = .ok (.goto (-22), 3) := by decide +kernel
theorem dX1_init_55 : decode cX1_init 55 = .ok (.iconst 0, 1) := by decide +kernel
theorem dX1_init_56 : decode cX1_init 56 = .ok (.istore_n 1, 1) := by decide +kernel
theorem dX1_init_57 : decode cX1_init 57 = .ok (.iload_n 1, 1) := by decide +kernel
theorem dX1_init_58 : decode cX1_init 58 = .ok (.bipush 7, 2) := by decide +kernel
theorem dX1_init_60 : decode cX1_init 60 = .ok (.if_icmp .ge 22, 3) := by decide +kernel
theorem dX1_init_63 : decode cX1_init 63 = .ok (.aload_n 0, 1) := by decide +kernel
theorem dX1_init_64 : decode cX1_init 64 = .ok (.getfield 19, 3) := by decide +kernel
theorem dX1_init_67 : decode cX1_init 67 = .ok (.iload_n 1, 1) := by decide +kernel
theorem dX1_init_68 : decode cX1_init 68 = .ok (.new 17, 3) := by decide +kernel
theorem dX1_init_71 : decode cX1_init 71 = .ok (.dup, 1) := by decide +kernel
theorem dX1_init_72 : decode cX1_init 72 = .ok (.invokespecial 28, 3) := by decide +kernel
theorem dX1_init_75 : decode cX1_init 75 = .ok (.aastore, 1) := by decide +kernel
theorem dX1_init_76 : decode cX1_init 76 = .ok (.iinc 1 1, 3) := by decide +kernel
theorem dX1_init_79 : decode cX1_init 79 = .ok (.goto (-22), 3) := by decide +kernel
theorem dX1_init_82 : decode cX1_init 82 = .ok (.return_, 1) := by decide +kernel
theorem dX1_hasPerson_0 : decode cX1_hasPerson 0 = .ok (.iload_n 1, 1) := by decide +kernel
theorem dX1_hasPerson_1 : decode cX1_hasPerson 1 = .ok (.ifCond .lt 15, 3) := by decide +kernel
theorem dX1_hasPerson_4 : decode cX1_hasPerson 4 = .ok (.iload_n 1, 1) := by decide +kernel
theorem dX1_hasPerson_5 : decode cX1_hasPerson 5 = .ok (.aload_n 0, 1) := by decide +kernel
theorem dX1_hasPerson_6 : decode cX1_hasPerson 6 = .ok (.getfield 29, 3) := by decide +kernel
theorem dX1_hasPerson_9 : decode cX1_hasPerson 9 = .ok (.if_icmp .ge 7, 3) := by decide +kernel
theorem dX1_hasPerson_12 : decode cX1_hasPerson 12 = .ok (.iconst 1, 1) := by decide +kernel
theorem dX1_hasPerson_13 : decode cX1_hasPerson 13 = .ok (.goto 4, 3) := by decide +kernel
theorem dX1_hasPerson_16 : decode cX1_hasPerson 16 = .ok (.iconst 0, 1) := by decide +kernel
theorem dX1_hasPerson_17 : decode cX1_hasPerson 17 = .ok (.ireturn, 1) := by decide +kernel
theorem dX1_hasSlip_0 : decode cX1_hasSlip 0 = .ok (.iload_n 1, 1) := by decide +kernel
theorem dX1_hasSlip_1 : decode cX1_hasSlip 1 = .ok (.ifCond .lt 15, 3) := by decide +kernel
theorem dX1_hasSlip_4 : decode cX1_hasSlip 4 = .ok (.iload_n 1, 1) := by decide +kernel
theorem dX1_hasSlip_5 : decode cX1_hasSlip 5 = .ok (.aload_n 0, 1) := by decide +kernel
theorem dX1_hasSlip_6 : decode cX1_hasSlip 6 = .ok (.getfield 32, 3) := by decide +kernel
theorem dX1_hasSlip_9 : decode cX1_hasSlip 9 = .ok (.if_icmp .ge 7, 3) := by decide +kernel
theorem dX1_hasSlip_12 : decode cX1_hasSlip 12 = .ok (.iconst 1, 1) := by decide +kernel
theorem dX1_hasSlip_13 : decode cX1_hasSlip 13 = .ok (.goto 4, 3) := by decide +kernel
theorem dX1_hasSlip_16 : decode cX1_hasSlip 16 = .ok (.iconst 0, 1) := by decide +kernel
theorem dX1_hasSlip_17 : decode cX1_hasSlip 17 = .ok (.ireturn, 1) := by decide +kernel
theorem dX1_groupOf_0 : decode cX1_groupOf 0 = .ok (.aload_n 0, 1) := by decide +kernel
theorem dX1_groupOf_1 : decode cX1_groupOf 1 = .ok (.getfield 11, 3) := by decide +kernel
theorem dX1_groupOf_4 : decode cX1_groupOf 4 = .ok (.aload_n 1, 1) := by decide +kernel
theorem dX1_groupOf_5 : decode cX1_groupOf 5 = .ok (.getfield 35, 3) := by decide +kernel
theorem dX1_groupOf_8 : decode cX1_groupOf 8 = .ok (.aaload, 1) := by decide +kernel
theorem dX1_groupOf_9 : decode cX1_groupOf 9 = .ok (.getfield 38, 3) := by decide +kernel
theorem dX1_groupOf_12 : decode cX1_groupOf 12 = .ok (.ireturn, 1) := by decide +kernel
theorem dX1_addPerson_0 : decode cX1_addPerson 0 = .ok (.aload_n 0, 1) := by decide +kernel
theorem dX1_addPerson_1 : decode cX1_addPerson 1 = .ok (.getfield 29, 3) := by decide +kernel
theorem dX1_addPerson_4 : decode cX1_addPerson 4 = .ok (.bipush 8, 2) := by decide +kernel
theorem dX1_addPerson_6 : decode cX1_addPerson 6 = .ok (.if_icmp .lt 6, 3) := by decide +kernel
theorem dX1_addPerson_9 : decode cX1_addPerson 9 = .ok (.bipush (-4), 2) := by decide +kernel
theorem dX1_addPerson_11 : decode cX1_addPerson 11 = .ok (.ireturn, 1) := by decide +kernel
theorem dX1_addPerson_12 : decode cX1_addPerson 12 = .ok (.aload_n 0, 1) := by decide +kernel
theorem dX1_addPerson_13 : decode cX1_addPerson 13 = .ok (.getfield 11, 3) := by decide +kernel
theorem dX1_addPerson_16 : decode cX1_addPerson 16 = .ok (.aload_n 0, 1) := by decide +kernel
theorem dX1_addPerson_17 : decode cX1_addPerson 17 = .ok (.getfield 29, 3) := by decide +kernel
theorem dX1_addPerson_20 : decode cX1_addPerson 20 = .ok (.aaload, 1) := by decide +kernel
theorem dX1_addPerson_21 : decode cX1_addPerson 21 = .ok (.iload_n 1, 1) := by decide +kernel
theorem dX1_addPerson_22 : decode cX1_addPerson 22 = .ok (.putfield 41, 3) := by decide +kernel
theorem dX1_addPerson_25 : decode cX1_addPerson 25 = .ok (.aload_n 0, 1) := by decide +kernel
theorem dX1_addPerson_26 : decode cX1_addPerson 26 = .ok (.getfield 11, 3) := by decide +kernel
theorem dX1_addPerson_29 : decode cX1_addPerson 29 = .ok (.aload_n 0, 1) := by decide +kernel
theorem dX1_addPerson_30 : decode cX1_addPerson 30 = .ok (.getfield 29, 3) := by decide +kernel
theorem dX1_addPerson_33 : decode cX1_addPerson 33 = .ok (.aaload, 1) := by decide +kernel
theorem dX1_addPerson_34 : decode cX1_addPerson 34 = .ok (.iload_n 2, 1) := by decide +kernel
theorem dX1_addPerson_35 : decode cX1_addPerson 35 = .ok (.putfield 38, 3) := by decide +kernel
theorem dX1_addPerson_38 : decode cX1_addPerson 38 = .ok (.aload_n 0, 1) := by decide +kernel
theorem dX1_addPerson_39 : decode cX1_addPerson 39 = .ok (.dup, 1) := by decide +kernel
theorem dX1_addPerson_40 : decode cX1_addPerson 40 = .ok (.getfield 29, 3) := by decide +kernel
theorem dX1_addPerson_43 : decode cX1_addPerson 43 = .ok (.iconst 1, 1) := by decide +kernel
theorem dX1_addPerson_44 : decode cX1_addPerson 44 = .ok (.iadd, 1) := by decide +kernel
theorem dX1_addPerson_45 : decode cX1_addPerson 45 = .ok (.putfield 29, 3) := by decide +kernel
theorem dX1_addPerson_48 : decode cX1_addPerson 48 = .ok (.aload_n 0, 1) := by decide +kernel
theorem dX1_addPerson_49 : decode cX1_addPerson 49 = .ok (.dup, 1) := by decide +kernel
theorem dX1_addPerson_50 : decode cX1_addPerson 50 = .ok (.getfield 44, 3) := by decide +kernel
theorem dX1_addPerson_53 : decode cX1_addPerson 53 = .ok (.iconst 1, 1) := by decide +kernel
theorem dX1_addPerson_54 : decode cX1_addPerson 54 = .ok (.iadd, 1) := by decide +kernel
theorem dX1_addPerson_55 : decode cX1_addPerson 55 = .ok (.putfield 44, 3) := by decide +kernel
theorem dX1_addPerson_58 : decode cX1_addPerson 58 = .ok (.aload_n 0, 1) := by decide +kernel
theorem dX1_addPerson_59 : decode cX1_addPerson 59 = .ok (.getfield 29, 3) := by decide +kernel
theorem dX1_addPerson_62 : decode cX1_addPerson 62 = .ok (.iconst 1, 1) := by decide +kernel
theorem dX1_addPerson_63 : decode cX1_addPerson 63 = .ok (.isub, 1) := by decide +kernel
theorem dX1_addPerson_64 : decode cX1_addPerson 64 = .ok (.ireturn, 1) := by decide +kernel
theorem dX1_addSlip_0 : decode cX1_addSlip 0 = .ok (.iload_n 1, 1) := by decide +kernel
theorem dX1_addSlip_1 : decode cX1_addSlip 1 = .ok (.ifCond .lt 28, 3) := by decide +kernel
theorem dX1_addSlip_4 : decode cX1_addSlip 4 = .ok (.iload_n 1, 1) := by decide +kernel
theorem dX1_addSlip_5 : decode cX1_addSlip 5 = .ok (.iconst 5, 1) := by decide +kernel
theorem dX1_addSlip_6 : decode cX1_addSlip 6 = .ok (.if_icmp .gt 23, 3) := by decide +kernel
theorem dX1_addSlip_9 : decode cX1_addSlip 9 = .ok (.iload_n 2, 1) := by decide +kernel
theorem dX1_addSlip_10 : decode cX1_addSlip 10 = .ok (.bipush 10, 2) := by decide +kernel
theorem dX1_addSlip_12 : decode cX1_addSlip 12 = .ok (.if_icmp .lt 17, 3) := by decide +kernel
theorem dX1_addSlip_15 : decode cX1_addSlip 15 = .ok (.iload_n 2, 1) := by decide +kernel
theorem dX1_addSlip_16 : decode cX1_addSlip 16 = .ok (.bipush 99, 2) := by decide +kernel
theorem dX1_addSlip_18 : decode cX1_addSlip 18 = .ok (.if_icmp .gt 11, 3) := by decide +kernel
theorem dX1_addSlip_21 : decode cX1_addSlip 21 = .ok (.aload_n 0, 1) := by decide +kernel
theorem dX1_addSlip_22 : decode cX1_addSlip 22 = .ok (.iload_n 3, 1) := by decide +kernel
theorem dX1_addSlip_23 : decode cX1_addSlip 23 = .ok (.invokevirtual 47, 3) := by decide +kernel
theorem dX1_addSlip_26 : decode cX1_addSlip 26 = .ok (.ifCond .ne 6, 3) := by decide +kernel
theorem dX1_addSlip_29 : decode cX1_addSlip 29 = .ok (.bipush (-2), 2) := by decide +kernel
theorem dX1_addSlip_31 : decode cX1_addSlip 31 = .ok (.ireturn, 1) := by decide +kernel
theorem dX1_addSlip_32 : decode cX1_addSlip 32 = .ok (.aload_n 0, 1) := by decide +kernel
theorem dX1_addSlip_33 : decode cX1_addSlip 33 = .ok (.getfield 32, 3) := by decide +kernel
theorem dX1_addSlip_36 : decode cX1_addSlip 36 = .ok (.bipush 7, 2) := by decide +kernel
theorem dX1_addSlip_38 : decode cX1_addSlip 38 = .ok (.if_icmp .lt 6, 3) := by decide +kernel
theorem dX1_addSlip_41 : decode cX1_addSlip 41 = .ok (.bipush (-4), 2) := by decide +kernel
theorem dX1_addSlip_43 : decode cX1_addSlip 43 = .ok (.ireturn, 1) := by decide +kernel
theorem dX1_addSlip_44 : decode cX1_addSlip 44 = .ok (.aload_n 0, 1) := by decide +kernel
theorem dX1_addSlip_45 : decode cX1_addSlip 45 = .ok (.getfield 19, 3) := by decide +kernel
theorem dX1_addSlip_48 : decode cX1_addSlip 48 = .ok (.aload_n 0, 1) := by decide +kernel
theorem dX1_addSlip_49 : decode cX1_addSlip 49 = .ok (.getfield 32, 3) := by decide +kernel
theorem dX1_addSlip_52 : decode cX1_addSlip 52 = .ok (.aaload, 1) := by decide +kernel
theorem dX1_addSlip_53 : decode cX1_addSlip 53 = .ok (.astore 4, 2) := by decide +kernel
theorem dX1_addSlip_55 : decode cX1_addSlip 55 = .ok (.aload 4, 2) := by decide +kernel
theorem dX1_addSlip_57 : decode cX1_addSlip 57 = .ok (.iload_n 1, 1) := by decide +kernel
theorem dX1_addSlip_58 : decode cX1_addSlip 58 = .ok (.putfield 51, 3) := by decide +kernel
theorem dX1_addSlip_61 : decode cX1_addSlip 61 = .ok (.aload 4, 2) := by decide +kernel
theorem dX1_addSlip_63 : decode cX1_addSlip 63 = .ok (.iload_n 2, 1) := by decide +kernel
theorem dX1_addSlip_64 : decode cX1_addSlip 64 = .ok (.bipush 10, 2) := by decide +kernel
theorem dX1_addSlip_66 : decode cX1_addSlip 66 = .ok (.irem, 1) := by decide +kernel
theorem dX1_addSlip_67 : decode cX1_addSlip 67 = .ok (.putfield 54, 3) := by decide +kernel
theorem dX1_addSlip_70 : decode cX1_addSlip 70 = .ok (.aload 4, 2) := by decide +kernel
theorem dX1_addSlip_72 : decode cX1_addSlip 72 = .ok (.iload_n 2, 1) := by decide +kernel
theorem dX1_addSlip_73 : decode cX1_addSlip 73 = .ok (.bipush 10, 2) := by decide +kernel
theorem dX1_addSlip_75 : decode cX1_addSlip 75 = .ok (.idiv, 1) := by decide +kernel
theorem dX1_addSlip_76 : decode cX1_addSlip 76 = .ok (.putfield 57, 3) := by decide +kernel
theorem dX1_addSlip_79 : decode cX1_addSlip 79 = .ok (.aload 4, 2) := by decide +kernel
theorem dX1_addSlip_81 : decode cX1_addSlip 81 = .ok (.iload_n 3, 1) := by decide +kernel
theorem dX1_addSlip_82 : decode cX1_addSlip 82 = .ok (.putfield 35, 3) := by decide +kernel
theorem dX1_addSlip_85 : decode cX1_addSlip 85 = .ok (.aload_n 0, 1) := by decide +kernel
theorem dX1_addSlip_86 : decode cX1_addSlip 86 = .ok (.dup, 1) := by decide +kernel
theorem dX1_addSlip_87 : decode cX1_addSlip 87 = .ok (.getfield 32, 3) := by decide +kernel
theorem dX1_addSlip_90 : decode cX1_addSlip 90 = .ok (.iconst 1, 1) := by decide +kernel
theorem dX1_addSlip_91 : decode cX1_addSlip 91 = .ok (.iadd, 1) := by decide +kernel
theorem dX1_addSlip_92 : decode cX1_addSlip 92 = .ok (.putfield 32, 3) := by decide +kernel
theorem dX1_addSlip_95 : decode cX1_addSlip 95 = .ok (.aload_n 0, 1) := by decide +kernel
theorem dX1_addSlip_96 : decode cX1_addSlip 96 = .ok (.dup, 1) := by decide +kernel
theorem dX1_addSlip_97 : decode cX1_addSlip 97 = .ok (.getfield 44, 3) := by decide +kernel
theorem dX1_addSlip_100 : decode cX1_addSlip 100 = .ok (.iconst 1, 1) := by decide +kernel
theorem dX1_addSlip_101 : decode cX1_addSlip 101 = .ok (.iadd, 1) := by decide +kernel
theorem dX1_addSlip_102 : decode cX1_addSlip 102 = .ok (.putfield 44, 3) := by decide +kernel
theorem dX1_addSlip_105 : decode cX1_addSlip 105 = .ok (.aload_n 0, 1) := by decide +kernel
theorem dX1_addSlip_106 : decode cX1_addSlip 106 = .ok (.getfield 32, 3) := by decide +kernel
theorem dX1_addSlip_109 : decode cX1_addSlip 109 = .ok (.iconst 1, 1) := by decide +kernel
theorem dX1_addSlip_110 : decode cX1_addSlip 110 = .ok (.isub, 1) := by decide +kernel
theorem dX1_addSlip_111 : decode cX1_addSlip 111 = .ok (.ireturn, 1) := by decide +kernel
theorem dX1_hasValue_0 : decode cX1_hasValue 0 = .ok (.iload_n 1, 1) := by decide +kernel
theorem dX1_hasValue_1 : decode cX1_hasValue 1 = .ok (.tableswitch 57 0 6 #[43, 43, 49, 49, 49, 55, 55], 43) := by decide +kernel
theorem dX1_hasValue_44 : decode cX1_hasValue 44 = .ok (.aload_n 0, 1) := by decide +kernel
theorem dX1_hasValue_45 : decode cX1_hasValue 45 = .ok (.iload_n 2, 1) := by decide +kernel
theorem dX1_hasValue_46 : decode cX1_hasValue 46 = .ok (.invokevirtual 47, 3) := by decide +kernel
theorem dX1_hasValue_49 : decode cX1_hasValue 49 = .ok (.ireturn, 1) := by decide +kernel
theorem dX1_hasValue_50 : decode cX1_hasValue 50 = .ok (.aload_n 0, 1) := by decide +kernel
theorem dX1_hasValue_51 : decode cX1_hasValue 51 = .ok (.iload_n 2, 1) := by decide +kernel
theorem dX1_hasValue_52 : decode cX1_hasValue 52 = .ok (.invokevirtual 60, 3) := by decide +kernel
theorem dX1_hasValue_55 : decode cX1_hasValue 55 = .ok (.ireturn, 1) := by decide +kernel
theorem dX1_hasValue_56 : decode cX1_hasValue 56 = .ok (.iconst 1, 1) := by decide +kernel
theorem dX1_hasValue_57 : decode cX1_hasValue 57 = .ok (.ireturn, 1) := by decide +kernel
theorem dX1_hasValue_58 : decode cX1_hasValue 58 = .ok (.iconst 0, 1) := by decide +kernel
theorem dX1_hasValue_59 : decode cX1_hasValue 59 = .ok (.ireturn, 1) := by decide +kernel
theorem dX1_allows_0 : decode cX1_allows 0 = .ok (.iload_n 1, 1) := by decide +kernel
theorem dX1_allows_1 : decode cX1_allows 1 = .ok (.tableswitch 149 0 6 #[43, 59, 75, 91, 108, 114, 132], 43) := by decide +kernel
theorem dX1_allows_44 : decode cX1_allows 44 = .ok (.iload_n 2, 1) := by decide +kernel
theorem dX1_allows_45 : decode cX1_allows 45 = .ok (.ifCond .lt 13, 3) := by decide +kernel
theorem dX1_allows_48 : decode cX1_allows 48 = .ok (.iload_n 2, 1) := by decide +kernel
theorem dX1_allows_49 : decode cX1_allows 49 = .ok (.bipush 99, 2) := by decide +kernel
theorem dX1_allows_51 : decode cX1_allows 51 = .ok (.if_icmp .gt 7, 3) := by decide +kernel
theorem dX1_allows_54 : decode cX1_allows 54 = .ok (.iconst 1, 1) := by decide +kernel
theorem dX1_allows_55 : decode cX1_allows 55 = .ok (.goto 4, 3) := by decide +kernel
theorem dX1_allows_58 : decode cX1_allows 58 = .ok (.iconst 0, 1) := by decide +kernel
theorem dX1_allows_59 : decode cX1_allows 59 = .ok (.ireturn, 1) := by decide +kernel
theorem dX1_allows_60 : decode cX1_allows 60 = .ok (.iload_n 2, 1) := by decide +kernel
theorem dX1_allows_61 : decode cX1_allows 61 = .ok (.ifCond .lt 13, 3) := by decide +kernel
theorem dX1_allows_64 : decode cX1_allows 64 = .ok (.iload_n 2, 1) := by decide +kernel
theorem dX1_allows_65 : decode cX1_allows 65 = .ok (.bipush 8, 2) := by decide +kernel
theorem dX1_allows_67 : decode cX1_allows 67 = .ok (.if_icmp .ge 7, 3) := by decide +kernel
theorem dX1_allows_70 : decode cX1_allows 70 = .ok (.iconst 1, 1) := by decide +kernel
theorem dX1_allows_71 : decode cX1_allows 71 = .ok (.goto 4, 3) := by decide +kernel
theorem dX1_allows_74 : decode cX1_allows 74 = .ok (.iconst 0, 1) := by decide +kernel
theorem dX1_allows_75 : decode cX1_allows 75 = .ok (.ireturn, 1) := by decide +kernel
theorem dX1_allows_76 : decode cX1_allows 76 = .ok (.iload_n 2, 1) := by decide +kernel
theorem dX1_allows_77 : decode cX1_allows 77 = .ok (.ifCond .lt 13, 3) := by decide +kernel
theorem dX1_allows_80 : decode cX1_allows 80 = .ok (.iload_n 2, 1) := by decide +kernel
theorem dX1_allows_81 : decode cX1_allows 81 = .ok (.bipush 9, 2) := by decide +kernel
theorem dX1_allows_83 : decode cX1_allows 83 = .ok (.if_icmp .gt 7, 3) := by decide +kernel
theorem dX1_allows_86 : decode cX1_allows 86 = .ok (.iconst 1, 1) := by decide +kernel
theorem dX1_allows_87 : decode cX1_allows 87 = .ok (.goto 4, 3) := by decide +kernel
theorem dX1_allows_90 : decode cX1_allows 90 = .ok (.iconst 0, 1) := by decide +kernel
theorem dX1_allows_91 : decode cX1_allows 91 = .ok (.ireturn, 1) := by decide +kernel
theorem dX1_allows_92 : decode cX1_allows 92 = .ok (.iload_n 2, 1) := by decide +kernel
theorem dX1_allows_93 : decode cX1_allows 93 = .ok (.iconst 1, 1) := by decide +kernel
theorem dX1_allows_94 : decode cX1_allows 94 = .ok (.if_icmp .lt 13, 3) := by decide +kernel
theorem dX1_allows_97 : decode cX1_allows 97 = .ok (.iload_n 2, 1) := by decide +kernel
theorem dX1_allows_98 : decode cX1_allows 98 = .ok (.bipush 9, 2) := by decide +kernel
theorem dX1_allows_100 : decode cX1_allows 100 = .ok (.if_icmp .gt 7, 3) := by decide +kernel
theorem dX1_allows_103 : decode cX1_allows 103 = .ok (.iconst 1, 1) := by decide +kernel
theorem dX1_allows_104 : decode cX1_allows 104 = .ok (.goto 4, 3) := by decide +kernel
theorem dX1_allows_107 : decode cX1_allows 107 = .ok (.iconst 0, 1) := by decide +kernel
theorem dX1_allows_108 : decode cX1_allows 108 = .ok (.ireturn, 1) := by decide +kernel
theorem dX1_allows_109 : decode cX1_allows 109 = .ok (.aload_n 0, 1) := by decide +kernel
theorem dX1_allows_110 : decode cX1_allows 110 = .ok (.iload_n 2, 1) := by decide +kernel
theorem dX1_allows_111 : decode cX1_allows 111 = .ok (.invokevirtual 47, 3) := by decide +kernel
theorem dX1_allows_114 : decode cX1_allows 114 = .ok (.ireturn, 1) := by decide +kernel
theorem dX1_allows_115 : decode cX1_allows 115 = .ok (.iload_n 2, 1) := by decide +kernel
theorem dX1_allows_116 : decode cX1_allows 116 = .ok (.bipush (-99), 2) := by decide +kernel
theorem dX1_allows_118 : decode cX1_allows 118 = .ok (.if_icmp .lt 13, 3) := by decide +kernel
theorem dX1_allows_121 : decode cX1_allows 121 = .ok (.iload_n 2, 1) := by decide +kernel
theorem dX1_allows_122 : decode cX1_allows 122 = .ok (.bipush 99, 2) := by decide +kernel
theorem dX1_allows_124 : decode cX1_allows 124 = .ok (.if_icmp .gt 7, 3) := by decide +kernel
theorem dX1_allows_127 : decode cX1_allows 127 = .ok (.iconst 1, 1) := by decide +kernel
theorem dX1_allows_128 : decode cX1_allows 128 = .ok (.goto 4, 3) := by decide +kernel
theorem dX1_allows_131 : decode cX1_allows 131 = .ok (.iconst 0, 1) := by decide +kernel
theorem dX1_allows_132 : decode cX1_allows 132 = .ok (.ireturn, 1) := by decide +kernel
theorem dX1_allows_133 : decode cX1_allows 133 = .ok (.iload_n 2, 1) := by decide +kernel
theorem dX1_allows_134 : decode cX1_allows 134 = .ok (.iconst 1, 1) := by decide +kernel
theorem dX1_allows_135 : decode cX1_allows 135 = .ok (.if_icmp .lt 13, 3) := by decide +kernel
theorem dX1_allows_138 : decode cX1_allows 138 = .ok (.iload_n 2, 1) := by decide +kernel
theorem dX1_allows_139 : decode cX1_allows 139 = .ok (.bipush 99, 2) := by decide +kernel
theorem dX1_allows_141 : decode cX1_allows 141 = .ok (.if_icmp .gt 7, 3) := by decide +kernel
theorem dX1_allows_144 : decode cX1_allows 144 = .ok (.iconst 1, 1) := by decide +kernel
theorem dX1_allows_145 : decode cX1_allows 145 = .ok (.goto 4, 3) := by decide +kernel
theorem dX1_allows_148 : decode cX1_allows 148 = .ok (.iconst 0, 1) := by decide +kernel
theorem dX1_allows_149 : decode cX1_allows 149 = .ok (.ireturn, 1) := by decide +kernel
theorem dX1_allows_150 : decode cX1_allows 150 = .ok (.iconst 0, 1) := by decide +kernel
theorem dX1_allows_151 : decode cX1_allows 151 = .ok (.ireturn, 1) := by decide +kernel
theorem dX1_valueOf_0 : decode cX1_valueOf 0 = .ok (.aload_n 0, 1) := by decide +kernel
theorem dX1_valueOf_1 : decode cX1_valueOf 1 = .ok (.iload_n 1, 1) := by decide +kernel
theorem dX1_valueOf_2 : decode cX1_valueOf 2 = .ok (.iload_n 2, 1) := by decide +kernel
theorem dX1_valueOf_3 : decode cX1_valueOf 3 = .ok (.invokevirtual 63, 3) := by decide +kernel
theorem dX1_valueOf_6 : decode cX1_valueOf 6 = .ok (.ifCond .ne 6, 3) := by decide +kernel
theorem dX1_valueOf_9 : decode cX1_valueOf 9 = .ok (.bipush (-2), 2) := by decide +kernel
theorem dX1_valueOf_11 : decode cX1_valueOf 11 = .ok (.ireturn, 1) := by decide +kernel
theorem dX1_valueOf_12 : decode cX1_valueOf 12 = .ok (.iload_n 1, 1) := by decide +kernel
theorem dX1_valueOf_13 : decode cX1_valueOf 13 = .ok (.tableswitch 94 0 5 #[39, 49, 59, 69, 79, 89], 39) := by decide +kernel
theorem dX1_valueOf_52 : decode cX1_valueOf 52 = .ok (.aload_n 0, 1) := by decide +kernel
theorem dX1_valueOf_53 : decode cX1_valueOf 53 = .ok (.getfield 11, 3) := by decide +kernel
theorem dX1_valueOf_56 : decode cX1_valueOf 56 = .ok (.iload_n 2, 1) := by decide +kernel
theorem dX1_valueOf_57 : decode cX1_valueOf 57 = .ok (.aaload, 1) := by decide +kernel
theorem dX1_valueOf_58 : decode cX1_valueOf 58 = .ok (.getfield 41, 3) := by decide +kernel
theorem dX1_valueOf_61 : decode cX1_valueOf 61 = .ok (.ireturn, 1) := by decide +kernel
theorem dX1_valueOf_62 : decode cX1_valueOf 62 = .ok (.aload_n 0, 1) := by decide +kernel
theorem dX1_valueOf_63 : decode cX1_valueOf 63 = .ok (.getfield 11, 3) := by decide +kernel
theorem dX1_valueOf_66 : decode cX1_valueOf 66 = .ok (.iload_n 2, 1) := by decide +kernel
theorem dX1_valueOf_67 : decode cX1_valueOf 67 = .ok (.aaload, 1) := by decide +kernel
theorem dX1_valueOf_68 : decode cX1_valueOf 68 = .ok (.getfield 38, 3) := by decide +kernel
theorem dX1_valueOf_71 : decode cX1_valueOf 71 = .ok (.ireturn, 1) := by decide +kernel
theorem dX1_valueOf_72 : decode cX1_valueOf 72 = .ok (.aload_n 0, 1) := by decide +kernel
theorem dX1_valueOf_73 : decode cX1_valueOf 73 = .ok (.getfield 19, 3) := by decide +kernel
theorem dX1_valueOf_76 : decode cX1_valueOf 76 = .ok (.iload_n 2, 1) := by decide +kernel
theorem dX1_valueOf_77 : decode cX1_valueOf 77 = .ok (.aaload, 1) := by decide +kernel
theorem dX1_valueOf_78 : decode cX1_valueOf 78 = .ok (.getfield 54, 3) := by decide +kernel
theorem dX1_valueOf_81 : decode cX1_valueOf 81 = .ok (.ireturn, 1) := by decide +kernel
theorem dX1_valueOf_82 : decode cX1_valueOf 82 = .ok (.aload_n 0, 1) := by decide +kernel
theorem dX1_valueOf_83 : decode cX1_valueOf 83 = .ok (.getfield 19, 3) := by decide +kernel
theorem dX1_valueOf_86 : decode cX1_valueOf 86 = .ok (.iload_n 2, 1) := by decide +kernel
theorem dX1_valueOf_87 : decode cX1_valueOf 87 = .ok (.aaload, 1) := by decide +kernel
theorem dX1_valueOf_88 : decode cX1_valueOf 88 = .ok (.getfield 57, 3) := by decide +kernel
theorem dX1_valueOf_91 : decode cX1_valueOf 91 = .ok (.ireturn, 1) := by decide +kernel
theorem dX1_valueOf_92 : decode cX1_valueOf 92 = .ok (.aload_n 0, 1) := by decide +kernel
theorem dX1_valueOf_93 : decode cX1_valueOf 93 = .ok (.getfield 19, 3) := by decide +kernel
theorem dX1_valueOf_96 : decode cX1_valueOf 96 = .ok (.iload_n 2, 1) := by decide +kernel
theorem dX1_valueOf_97 : decode cX1_valueOf 97 = .ok (.aaload, 1) := by decide +kernel
theorem dX1_valueOf_98 : decode cX1_valueOf 98 = .ok (.getfield 35, 3) := by decide +kernel
theorem dX1_valueOf_101 : decode cX1_valueOf 101 = .ok (.ireturn, 1) := by decide +kernel
theorem dX1_valueOf_102 : decode cX1_valueOf 102 = .ok (.aload_n 0, 1) := by decide +kernel
theorem dX1_valueOf_103 : decode cX1_valueOf 103 = .ok (.getfield 67, 3) := by decide +kernel
theorem dX1_valueOf_106 : decode cX1_valueOf 106 = .ok (.ireturn, 1) := by decide +kernel
theorem dX1_valueOf_107 : decode cX1_valueOf 107 = .ok (.aload_n 0, 1) := by decide +kernel
theorem dX1_valueOf_108 : decode cX1_valueOf 108 = .ok (.getfield 23, 3) := by decide +kernel
theorem dX1_valueOf_111 : decode cX1_valueOf 111 = .ok (.ireturn, 1) := by decide +kernel
theorem dX1_change_0 : decode cX1_change 0 = .ok (.aload_n 0, 1) := by decide +kernel
theorem dX1_change_1 : decode cX1_change 1 = .ok (.iload_n 1, 1) := by decide +kernel
theorem dX1_change_2 : decode cX1_change 2 = .ok (.iload_n 2, 1) := by decide +kernel
theorem dX1_change_3 : decode cX1_change 3 = .ok (.invokevirtual 63, 3) := by decide +kernel
theorem dX1_change_6 : decode cX1_change 6 = .ok (.ifCond .eq 12, 3) := by decide +kernel
theorem dX1_change_9 : decode cX1_change 9 = .ok (.aload_n 0, 1) := by decide +kernel
theorem dX1_change_10 : decode cX1_change 10 = .ok (.iload_n 1, 1) := by decide +kernel
theorem dX1_change_11 : decode cX1_change 11 = .ok (.iload_n 3, 1) := by decide +kernel
theorem dX1_change_12 : decode cX1_change 12 = .ok (.invokevirtual 70, 3) := by decide +kernel
theorem dX1_change_15 : decode cX1_change 15 = .ok (.ifCond .ne 4, 3) := by decide +kernel
theorem dX1_change_18 : decode cX1_change 18 = .ok (.return_, 1) := by decide +kernel
theorem dX1_change_19 : decode cX1_change 19 = .ok (.iload_n 1, 1) := by decide +kernel
theorem dX1_change_20 : decode cX1_change 20 = .ok (.tableswitch 113 0 5 #[40, 53, 66, 79, 92, 105], 40) := by decide +kernel
theorem dX1_change_60 : decode cX1_change 60 = .ok (.aload_n 0, 1) := by decide +kernel
theorem dX1_change_61 : decode cX1_change 61 = .ok (.getfield 11, 3) := by decide +kernel
theorem dX1_change_64 : decode cX1_change 64 = .ok (.iload_n 2, 1) := by decide +kernel
theorem dX1_change_65 : decode cX1_change 65 = .ok (.aaload, 1) := by decide +kernel
theorem dX1_change_66 : decode cX1_change 66 = .ok (.iload_n 3, 1) := by decide +kernel
theorem dX1_change_67 : decode cX1_change 67 = .ok (.putfield 41, 3) := by decide +kernel
theorem dX1_change_70 : decode cX1_change 70 = .ok (.goto 68, 3) := by decide +kernel
theorem dX1_change_73 : decode cX1_change 73 = .ok (.aload_n 0, 1) := by decide +kernel
theorem dX1_change_74 : decode cX1_change 74 = .ok (.getfield 11, 3) := by decide +kernel
theorem dX1_change_77 : decode cX1_change 77 = .ok (.iload_n 2, 1) := by decide +kernel
theorem dX1_change_78 : decode cX1_change 78 = .ok (.aaload, 1) := by decide +kernel
theorem dX1_change_79 : decode cX1_change 79 = .ok (.iload_n 3, 1) := by decide +kernel
theorem dX1_change_80 : decode cX1_change 80 = .ok (.putfield 38, 3) := by decide +kernel
theorem dX1_change_83 : decode cX1_change 83 = .ok (.goto 55, 3) := by decide +kernel
theorem dX1_change_86 : decode cX1_change 86 = .ok (.aload_n 0, 1) := by decide +kernel
theorem dX1_change_87 : decode cX1_change 87 = .ok (.getfield 19, 3) := by decide +kernel
theorem dX1_change_90 : decode cX1_change 90 = .ok (.iload_n 2, 1) := by decide +kernel
theorem dX1_change_91 : decode cX1_change 91 = .ok (.aaload, 1) := by decide +kernel
theorem dX1_change_92 : decode cX1_change 92 = .ok (.iload_n 3, 1) := by decide +kernel
theorem dX1_change_93 : decode cX1_change 93 = .ok (.putfield 54, 3) := by decide +kernel
theorem dX1_change_96 : decode cX1_change 96 = .ok (.goto 42, 3) := by decide +kernel
theorem dX1_change_99 : decode cX1_change 99 = .ok (.aload_n 0, 1) := by decide +kernel
theorem dX1_change_100 : decode cX1_change 100 = .ok (.getfield 19, 3) := by decide +kernel
theorem dX1_change_103 : decode cX1_change 103 = .ok (.iload_n 2, 1) := by decide +kernel
theorem dX1_change_104 : decode cX1_change 104 = .ok (.aaload, 1) := by decide +kernel
theorem dX1_change_105 : decode cX1_change 105 = .ok (.iload_n 3, 1) := by decide +kernel
theorem dX1_change_106 : decode cX1_change 106 = .ok (.putfield 57, 3) := by decide +kernel
theorem dX1_change_109 : decode cX1_change 109 = .ok (.goto 29, 3) := by decide +kernel
theorem dX1_change_112 : decode cX1_change 112 = .ok (.aload_n 0, 1) := by decide +kernel
theorem dX1_change_113 : decode cX1_change 113 = .ok (.getfield 19, 3) := by decide +kernel
theorem dX1_change_116 : decode cX1_change 116 = .ok (.iload_n 2, 1) := by decide +kernel
theorem dX1_change_117 : decode cX1_change 117 = .ok (.aaload, 1) := by decide +kernel
theorem dX1_change_118 : decode cX1_change 118 = .ok (.iload_n 3, 1) := by decide +kernel
theorem dX1_change_119 : decode cX1_change 119 = .ok (.putfield 35, 3) := by decide +kernel
theorem dX1_change_122 : decode cX1_change 122 = .ok (.goto 16, 3) := by decide +kernel
theorem dX1_change_125 : decode cX1_change 125 = .ok (.aload_n 0, 1) := by decide +kernel
theorem dX1_change_126 : decode cX1_change 126 = .ok (.iload_n 3, 1) := by decide +kernel
theorem dX1_change_127 : decode cX1_change 127 = .ok (.putfield 67, 3) := by decide +kernel
theorem dX1_change_130 : decode cX1_change 130 = .ok (.goto 8, 3) := by decide +kernel
theorem dX1_change_133 : decode cX1_change 133 = .ok (.aload_n 0, 1) := by decide +kernel
theorem dX1_change_134 : decode cX1_change 134 = .ok (.iload_n 3, 1) := by decide +kernel
theorem dX1_change_135 : decode cX1_change 135 = .ok (.putfield 23, 3) := by decide +kernel
theorem dX1_change_138 : decode cX1_change 138 = .ok (.aload_n 0, 1) := by decide +kernel
theorem dX1_change_139 : decode cX1_change 139 = .ok (.dup, 1) := by decide +kernel
theorem dX1_change_140 : decode cX1_change 140 = .ok (.getfield 44, 3) := by decide +kernel
theorem dX1_change_143 : decode cX1_change 143 = .ok (.iconst 1, 1) := by decide +kernel
theorem dX1_change_144 : decode cX1_change 144 = .ok (.iadd, 1) := by decide +kernel
theorem dX1_change_145 : decode cX1_change 145 = .ok (.putfield 44, 3) := by decide +kernel
theorem dX1_change_148 : decode cX1_change 148 = .ok (.return_, 1) := by decide +kernel
theorem dX1_follow_0 : decode cX1_follow 0 = .ok (.aload_n 0, 1) := by decide +kernel
theorem dX1_follow_1 : decode cX1_follow 1 = .ok (.iload_n 1, 1) := by decide +kernel
theorem dX1_follow_2 : decode cX1_follow 2 = .ok (.putfield 73, 3) := by decide +kernel
theorem dX1_follow_5 : decode cX1_follow 5 = .ok (.aload_n 0, 1) := by decide +kernel
theorem dX1_follow_6 : decode cX1_follow 6 = .ok (.dup, 1) := by decide +kernel
theorem dX1_follow_7 : decode cX1_follow 7 = .ok (.getfield 44, 3) := by decide +kernel
theorem dX1_follow_10 : decode cX1_follow 10 = .ok (.iconst 1, 1) := by decide +kernel
theorem dX1_follow_11 : decode cX1_follow 11 = .ok (.iadd, 1) := by decide +kernel
theorem dX1_follow_12 : decode cX1_follow 12 = .ok (.putfield 44, 3) := by decide +kernel
theorem dX1_follow_15 : decode cX1_follow 15 = .ok (.return_, 1) := by decide +kernel
theorem dX1_become_0 : decode cX1_become 0 = .ok (.iconst 0, 1) := by decide +kernel
theorem dX1_become_1 : decode cX1_become 1 = .ok (.istore_n 2, 1) := by decide +kernel
theorem dX1_become_2 : decode cX1_become 2 = .ok (.iload_n 2, 1) := by decide +kernel
theorem dX1_become_3 : decode cX1_become 3 = .ok (.bipush 8, 2) := by decide +kernel
theorem dX1_become_5 : decode cX1_become 5 = .ok (.if_icmp .ge 24, 3) := by decide +kernel
theorem dX1_become_8 : decode cX1_become 8 = .ok (.aload_n 0, 1) := by decide +kernel
theorem dX1_become_9 : decode cX1_become 9 = .ok (.getfield 11, 3) := by decide +kernel
theorem dX1_become_12 : decode cX1_become 12 = .ok (.iload_n 2, 1) := by decide +kernel
theorem dX1_become_13 : decode cX1_become 13 = .ok (.aaload, 1) := by decide +kernel
theorem dX1_become_14 : decode cX1_become 14 = .ok (.aload_n 1, 1) := by decide +kernel
theorem dX1_become_15 : decode cX1_become 15 = .ok (.getfield 11, 3) := by decide +kernel
theorem dX1_become_18 : decode cX1_become 18 = .ok (.iload_n 2, 1) := by decide +kernel
theorem dX1_become_19 : decode cX1_become 19 = .ok (.aaload, 1) := by decide +kernel
theorem dX1_become_20 : decode cX1_become 20 = .ok (.invokevirtual 76, 3) := by decide +kernel
theorem dX1_become_23 : decode cX1_become 23 = .ok (.iinc 2 1, 3) := by decide +kernel
theorem dX1_become_26 : decode cX1_become 26 = .ok (.goto (-24), 3) := by decide +kernel
theorem dX1_become_29 : decode cX1_become 29 = .ok (.iconst 0, 1) := by decide +kernel
theorem dX1_become_30 : decode cX1_become 30 = .ok (.istore_n 2, 1) := by decide +kernel
theorem dX1_become_31 : decode cX1_become 31 = .ok (.iload_n 2, 1) := by decide +kernel
theorem dX1_become_32 : decode cX1_become 32 = .ok (.bipush 7, 2) := by decide +kernel
theorem dX1_become_34 : decode cX1_become 34 = .ok (.if_icmp .ge 24, 3) := by decide +kernel
theorem dX1_become_37 : decode cX1_become 37 = .ok (.aload_n 0, 1) := by decide +kernel
theorem dX1_become_38 : decode cX1_become 38 = .ok (.getfield 19, 3) := by decide +kernel
theorem dX1_become_41 : decode cX1_become 41 = .ok (.iload_n 2, 1) := by decide +kernel
theorem dX1_become_42 : decode cX1_become 42 = .ok (.aaload, 1) := by decide +kernel
theorem dX1_become_43 : decode cX1_become 43 = .ok (.aload_n 1, 1) := by decide +kernel
theorem dX1_become_44 : decode cX1_become 44 = .ok (.getfield 19, 3) := by decide +kernel
theorem dX1_become_47 : decode cX1_become 47 = .ok (.iload_n 2, 1) := by decide +kernel
theorem dX1_become_48 : decode cX1_become 48 = .ok (.aaload, 1) := by decide +kernel
theorem dX1_become_49 : decode cX1_become 49 = .ok (.invokevirtual 80, 3) := by decide +kernel
theorem dX1_become_52 : decode cX1_become 52 = .ok (.iinc 2 1, 3) := by decide +kernel
theorem dX1_become_55 : decode cX1_become 55 = .ok (.goto (-24), 3) := by decide +kernel
theorem dX1_become_58 : decode cX1_become 58 = .ok (.aload_n 0, 1) := by decide +kernel
theorem dX1_become_59 : decode cX1_become 59 = .ok (.aload_n 1, 1) := by decide +kernel
theorem dX1_become_60 : decode cX1_become 60 = .ok (.getfield 29, 3) := by decide +kernel
theorem dX1_become_63 : decode cX1_become 63 = .ok (.putfield 29, 3) := by decide +kernel
theorem dX1_become_66 : decode cX1_become 66 = .ok (.aload_n 0, 1) := by decide +kernel
theorem dX1_become_67 : decode cX1_become 67 = .ok (.aload_n 1, 1) := by decide +kernel
theorem dX1_become_68 : decode cX1_become 68 = .ok (.getfield 32, 3) := by decide +kernel
theorem dX1_become_71 : decode cX1_become 71 = .ok (.putfield 32, 3) := by decide +kernel
theorem dX1_become_74 : decode cX1_become 74 = .ok (.aload_n 0, 1) := by decide +kernel
theorem dX1_become_75 : decode cX1_become 75 = .ok (.aload_n 1, 1) := by decide +kernel
theorem dX1_become_76 : decode cX1_become 76 = .ok (.getfield 67, 3) := by decide +kernel
theorem dX1_become_79 : decode cX1_become 79 = .ok (.putfield 67, 3) := by decide +kernel
theorem dX1_become_82 : decode cX1_become 82 = .ok (.aload_n 0, 1) := by decide +kernel
theorem dX1_become_83 : decode cX1_become 83 = .ok (.aload_n 1, 1) := by decide +kernel
theorem dX1_become_84 : decode cX1_become 84 = .ok (.getfield 23, 3) := by decide +kernel
theorem dX1_become_87 : decode cX1_become 87 = .ok (.putfield 23, 3) := by decide +kernel
theorem dX1_become_90 : decode cX1_become 90 = .ok (.aload_n 0, 1) := by decide +kernel
theorem dX1_become_91 : decode cX1_become 91 = .ok (.aload_n 1, 1) := by decide +kernel
theorem dX1_become_92 : decode cX1_become 92 = .ok (.getfield 73, 3) := by decide +kernel
theorem dX1_become_95 : decode cX1_become 95 = .ok (.putfield 73, 3) := by decide +kernel
theorem dX1_become_98 : decode cX1_become 98 = .ok (.aload_n 0, 1) := by decide +kernel
theorem dX1_become_99 : decode cX1_become 99 = .ok (.dup, 1) := by decide +kernel
theorem dX1_become_100 : decode cX1_become 100 = .ok (.getfield 44, 3) := by decide +kernel
theorem dX1_become_103 : decode cX1_become 103 = .ok (.iconst 1, 1) := by decide +kernel
theorem dX1_become_104 : decode cX1_become 104 = .ok (.iadd, 1) := by decide +kernel
theorem dX1_become_105 : decode cX1_become 105 = .ok (.putfield 44, 3) := by decide +kernel
theorem dX1_become_108 : decode cX1_become 108 = .ok (.return_, 1) := by decide +kernel
theorem dX1_isRow_0 : decode cX1_isRow 0 = .ok (.iload_n 1, 1) := by decide +kernel
theorem dX1_isRow_1 : decode cX1_isRow 1 = .ok (.ifCond .ge 5, 3) := by decide +kernel
theorem dX1_isRow_4 : decode cX1_isRow 4 = .ok (.iconst 0, 1) := by decide +kernel
theorem dX1_isRow_5 : decode cX1_isRow 5 = .ok (.ireturn, 1) := by decide +kernel
theorem dX1_isRow_6 : decode cX1_isRow 6 = .ok (.iconst 0, 1) := by decide +kernel
theorem dX1_isRow_7 : decode cX1_isRow 7 = .ok (.istore_n 2, 1) := by decide +kernel
theorem dX1_isRow_8 : decode cX1_isRow 8 = .ok (.iload_n 1, 1) := by decide +kernel
theorem dX1_isRow_9 : decode cX1_isRow 9 = .ok (.istore_n 3, 1) := by decide +kernel
theorem dX1_isRow_10 : decode cX1_isRow 10 = .ok (.iload_n 3, 1) := by decide +kernel
theorem dX1_isRow_11 : decode cX1_isRow 11 = .ok (.ifCond .le 47, 3) := by decide +kernel
theorem dX1_isRow_14 : decode cX1_isRow 14 = .ok (.iload_n 3, 1) := by decide +kernel
theorem dX1_isRow_15 : decode cX1_isRow 15 = .ok (.bipush 10, 2) := by decide +kernel
theorem dX1_isRow_17 : decode cX1_isRow 17 = .ok (.irem, 1) := by decide +kernel
theorem dX1_isRow_18 : decode cX1_isRow 18 = .ok (.iconst 1, 1) := by decide +kernel
theorem dX1_isRow_19 : decode cX1_isRow 19 = .ok (.isub, 1) := by decide +kernel
theorem dX1_isRow_20 : decode cX1_isRow 20 = .ok (.istore 4, 2) := by decide +kernel
theorem dX1_isRow_22 : decode cX1_isRow 22 = .ok (.aload_n 0, 1) := by decide +kernel
theorem dX1_isRow_23 : decode cX1_isRow 23 = .ok (.iload 4, 2) := by decide +kernel
theorem dX1_isRow_25 : decode cX1_isRow 25 = .ok (.invokevirtual 60, 3) := by decide +kernel
theorem dX1_isRow_28 : decode cX1_isRow 28 = .ok (.ifCond .eq 13, 3) := by decide +kernel
theorem dX1_isRow_31 : decode cX1_isRow 31 = .ok (.iload_n 2, 1) := by decide +kernel
theorem dX1_isRow_32 : decode cX1_isRow 32 = .ok (.iload 4, 2) := by decide +kernel
theorem dX1_isRow_34 : decode cX1_isRow 34 = .ok (.ishr, 1) := by decide +kernel
theorem dX1_isRow_35 : decode cX1_isRow 35 = .ok (.iconst 1, 1) := by decide +kernel
theorem dX1_isRow_36 : decode cX1_isRow 36 = .ok (.iand, 1) := by decide +kernel
theorem dX1_isRow_37 : decode cX1_isRow 37 = .ok (.iconst 1, 1) := by decide +kernel
theorem dX1_isRow_38 : decode cX1_isRow 38 = .ok (.if_icmp .ne 5, 3) := by decide +kernel
theorem dX1_isRow_41 : decode cX1_isRow 41 = .ok (.iconst 0, 1) := by decide +kernel
theorem dX1_isRow_42 : decode cX1_isRow 42 = .ok (.ireturn, 1) := by decide +kernel
theorem dX1_isRow_43 : decode cX1_isRow 43 = .ok (.iload_n 2, 1) := by decide +kernel
theorem dX1_isRow_44 : decode cX1_isRow 44 = .ok (.iconst 1, 1) := by decide +kernel
theorem dX1_isRow_45 : decode cX1_isRow 45 = .ok (.iload 4, 2) := by decide +kernel
theorem dX1_isRow_47 : decode cX1_isRow 47 = .ok (.ishl, 1) := by decide +kernel
theorem dX1_isRow_48 : decode cX1_isRow 48 = .ok (.ior, 1) := by decide +kernel
theorem dX1_isRow_49 : decode cX1_isRow 49 = .ok (.istore_n 2, 1) := by decide +kernel
theorem dX1_isRow_50 : decode cX1_isRow 50 = .ok (.iload_n 3, 1) := by decide +kernel
theorem dX1_isRow_51 : decode cX1_isRow 51 = .ok (.bipush 10, 2) := by decide +kernel
theorem dX1_isRow_53 : decode cX1_isRow 53 = .ok (.idiv, 1) := by decide +kernel
theorem dX1_isRow_54 : decode cX1_isRow 54 = .ok (.istore_n 3, 1) := by decide +kernel
theorem dX1_isRow_55 : decode cX1_isRow 55 = .ok (.goto (-45), 3) := by decide +kernel
theorem dX1_isRow_58 : decode cX1_isRow 58 = .ok (.iconst 1, 1) := by decide +kernel
theorem dX1_isRow_59 : decode cX1_isRow 59 = .ok (.ireturn, 1) := by decide +kernel
