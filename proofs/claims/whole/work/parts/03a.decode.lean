theorem dX0_init_0 : decode cX0_init 0 = .ok (.aload_n 0, 1) := by decide +kernel
theorem dX0_init_1 : decode cX0_init 1 = .ok (.invokespecial 5, 3) := by decide +kernel
theorem dX0_init_4 : decode cX0_init 4 = .ok (.aload_n 0, 1) := by decide +kernel
theorem dX0_init_5 : decode cX0_init 5 = .ok (.bipush 24, 2) := by decide +kernel
theorem dX0_init_7 : decode cX0_init 7 = .ok (.bipush 25, 2) := by decide +kernel
theorem dX0_init_9 : decode cX0_init 9 = .ok (.multianewarray 11 2, 4) := by decide +kernel
theorem dX0_init_13 : decode cX0_init 13 = .ok (.putfield 13, 3) := by decide +kernel
theorem dX0_init_16 : decode cX0_init 16 = .ok (.aload_n 0, 1) := by decide +kernel
theorem dX0_init_17 : decode cX0_init 17 = .ok (.iconst 0, 1) := by decide +kernel
theorem dX0_init_18 : decode cX0_init 18 = .ok (.putfield 16, 3) := by decide +kernel
theorem dX0_init_21 : decode cX0_init 21 = .ok (.aload_n 0, 1) := by decide +kernel
theorem dX0_init_22 : decode cX0_init 22 = .ok (.iconst 0, 1) := by decide +kernel
theorem dX0_init_23 : decode cX0_init 23 = .ok (.putfield 20, 3) := by decide +kernel
theorem dX0_init_26 : decode cX0_init 26 = .ok (.return_, 1) := by decide +kernel
theorem dX0_clear_0 : decode cX0_clear 0 = .ok (.aload_n 0, 1) := by decide +kernel
theorem dX0_clear_1 : decode cX0_clear 1 = .ok (.iconst 0, 1) := by decide +kernel
theorem dX0_clear_2 : decode cX0_clear 2 = .ok (.putfield 20, 3) := by decide +kernel
theorem dX0_clear_5 : decode cX0_clear 5 = .ok (.return_, 1) := by decide +kernel
theorem dX0_keep_0 : decode cX0_keep 0 = .ok (.aload_n 0, 1) := by decide +kernel
theorem dX0_keep_1 : decode cX0_keep 1 = .ok (.getfield 13, 3) := by decide +kernel
theorem dX0_keep_4 : decode cX0_keep 4 = .ok (.aload_n 0, 1) := by decide +kernel
theorem dX0_keep_5 : decode cX0_keep 5 = .ok (.getfield 16, 3) := by decide +kernel
theorem dX0_keep_8 : decode cX0_keep 8 = .ok (.aaload, 1) := by decide +kernel
theorem dX0_keep_9 : decode cX0_keep 9 = .ok (.astore_n 2, 1) := by decide +kernel
theorem dX0_keep_10 : decode cX0_keep 10 = .ok (.aload_n 2, 1) := by decide +kernel
theorem dX0_keep_11 : decode cX0_keep 11 = .ok (.iconst 0, 1) := by decide +kernel
theorem dX0_keep_12 : decode cX0_keep 12 = .ok (.aload_n 1, 1) := by decide +kernel
theorem dX0_keep_13 : decode cX0_keep 13 = .ok (.getfield 23, 3) := by decide +kernel
theorem dX0_keep_16 : decode cX0_keep 16 = .ok (.iastore, 1) := by decide +kernel
theorem dX0_keep_17 : decode cX0_keep 17 = .ok (.aload_n 2, 1) := by decide +kernel
theorem dX0_keep_18 : decode cX0_keep 18 = .ok (.iconst 1, 1) := by decide +kernel
theorem dX0_keep_19 : decode cX0_keep 19 = .ok (.aload_n 1, 1) := by decide +kernel
theorem dX0_keep_20 : decode cX0_keep 20 = .ok (.getfield 28, 3) := by decide +kernel
theorem dX0_keep_23 : decode cX0_keep 23 = .ok (.iastore, 1) := by decide +kernel
theorem dX0_keep_24 : decode cX0_keep 24 = .ok (.aload_n 2, 1) := by decide +kernel
theorem dX0_keep_25 : decode cX0_keep 25 = .ok (.iconst 2, 1) := by decide +kernel
theorem dX0_keep_26 : decode cX0_keep 26 = .ok (.aload_n 1, 1) := by decide +kernel
theorem dX0_keep_27 : decode cX0_keep 27 = .ok (.getfield 31, 3) := by decide +kernel
theorem dX0_keep_30 : decode cX0_keep 30 = .ok (.ifCond .eq 7, 3) := by decide +kernel
theorem dX0_keep_33 : decode cX0_keep 33 = .ok (.iconst 1, 1) := by decide +kernel
theorem dX0_keep_34 : decode cX0_keep 34 = .ok (.goto 4, 3) := by decide +kernel
theorem dX0_keep_37 : decode cX0_keep 37 = .ok (.iconst 0, 1) := by decide +kernel
theorem dX0_keep_38 : decode cX0_keep 38 = .ok (.iastore, 1) := by decide +kernel
theorem dX0_keep_39 : decode cX0_keep 39 = .ok (.aload_n 2, 1) := by decide +kernel
theorem dX0_keep_40 : decode cX0_keep 40 = .ok (.iconst 3, 1) := by decide +kernel
theorem dX0_keep_41 : decode cX0_keep 41 = .ok (.aload_n 1, 1) := by decide +kernel
theorem dX0_keep_42 : decode cX0_keep 42 = .ok (.getfield 35, 3) := by decide +kernel
theorem dX0_keep_45 : decode cX0_keep 45 = .ok (.iastore, 1) := by decide +kernel
theorem dX0_keep_46 : decode cX0_keep 46 = .ok (.aload_n 1, 1) := by decide +kernel
theorem dX0_keep_47 : decode cX0_keep 47 = .ok (.getfield 38, 3) := by decide +kernel
theorem dX0_keep_50 : decode cX0_keep 50 = .ok (.iconst 0, 1) := by decide +kernel
theorem dX0_keep_51 : decode cX0_keep 51 = .ok (.aload_n 2, 1) := by decide +kernel
theorem dX0_keep_52 : decode cX0_keep 52 = .ok (.iconst 4, 1) := by decide +kernel
theorem dX0_keep_53 : decode cX0_keep 53 = .ok (.bipush 7, 2) := by decide +kernel
theorem dX0_keep_55 : decode cX0_keep 55 = .ok (.invokestatic 42, 3) := by decide +kernel
theorem dX0_keep_58 : decode cX0_keep 58 = .ok (.aload_n 1, 1) := by decide +kernel
theorem dX0_keep_59 : decode cX0_keep 59 = .ok (.getfield 48, 3) := by decide +kernel
theorem dX0_keep_62 : decode cX0_keep 62 = .ok (.iconst 0, 1) := by decide +kernel
theorem dX0_keep_63 : decode cX0_keep 63 = .ok (.aload_n 2, 1) := by decide +kernel
theorem dX0_keep_64 : decode cX0_keep 64 = .ok (.bipush 11, 2) := by decide +kernel
theorem dX0_keep_66 : decode cX0_keep 66 = .ok (.bipush 7, 2) := by decide +kernel
theorem dX0_keep_68 : decode cX0_keep 68 = .ok (.invokestatic 42, 3) := by decide +kernel
theorem dX0_keep_71 : decode cX0_keep 71 = .ok (.aload_n 1, 1) := by decide +kernel
theorem dX0_keep_72 : decode cX0_keep 72 = .ok (.getfield 51, 3) := by decide +kernel
theorem dX0_keep_75 : decode cX0_keep 75 = .ok (.iconst 0, 1) := by decide +kernel
theorem dX0_keep_76 : decode cX0_keep 76 = .ok (.aload_n 2, 1) := by decide +kernel
theorem dX0_keep_77 : decode cX0_keep 77 = .ok (.bipush 18, 2) := by decide +kernel
theorem dX0_keep_79 : decode cX0_keep 79 = .ok (.bipush 7, 2) := by decide +kernel
theorem dX0_keep_81 : decode cX0_keep 81 = .ok (.invokestatic 42, 3) := by decide +kernel
theorem dX0_keep_84 : decode cX0_keep 84 = .ok (.aload_n 0, 1) := by decide +kernel
theorem dX0_keep_85 : decode cX0_keep 85 = .ok (.aload_n 0, 1) := by decide +kernel
theorem dX0_keep_86 : decode cX0_keep 86 = .ok (.getfield 16, 3) := by decide +kernel
theorem dX0_keep_89 : decode cX0_keep 89 = .ok (.iconst 1, 1) := by decide +kernel
theorem dX0_keep_90 : decode cX0_keep 90 = .ok (.iadd, 1) := by decide +kernel
theorem dX0_keep_91 : decode cX0_keep 91 = .ok (.bipush 24, 2) := by decide +kernel
theorem dX0_keep_93 : decode cX0_keep 93 = .ok (.irem, 1) := by decide +kernel
theorem dX0_keep_94 : decode cX0_keep 94 = .ok (.putfield 16, 3) := by decide +kernel
theorem dX0_keep_97 : decode cX0_keep 97 = .ok (.aload_n 0, 1) := by decide +kernel
theorem dX0_keep_98 : decode cX0_keep 98 = .ok (.aload_n 0, 1) := by decide +kernel
theorem dX0_keep_99 : decode cX0_keep 99 = .ok (.getfield 20, 3) := by decide +kernel
theorem dX0_keep_102 : decode cX0_keep 102 = .ok (.iconst 1, 1) := by decide +kernel
theorem dX0_keep_103 : decode cX0_keep 103 = .ok (.iadd, 1) := by decide +kernel
theorem dX0_keep_104 : decode cX0_keep 104 = .ok (.bipush 24, 2) := by decide +kernel
theorem dX0_keep_106 : decode cX0_keep 106 = .ok (.invokestatic 54, 3) := by decide +kernel
theorem dX0_keep_109 : decode cX0_keep 109 = .ok (.putfield 20, 3) := by decide +kernel
theorem dX0_keep_112 : decode cX0_keep 112 = .ok (.return_, 1) := by decide +kernel
theorem dX0_takeBack_0 : decode cX0_takeBack 0 = .ok (.aload_n 0, 1) := by decide +kernel
theorem dX0_takeBack_1 : decode cX0_takeBack 1 = .ok (.getfield 20, 3) := by decide +kernel
theorem dX0_takeBack_4 : decode cX0_takeBack 4 = .ok (.ifCond .ne 4, 3) := by decide +kernel
theorem dX0_takeBack_7 : decode cX0_takeBack 7 = .ok (.return_, 1) := by decide +kernel
theorem dX0_takeBack_8 : decode cX0_takeBack 8 = .ok (.aload_n 0, 1) := by decide +kernel
theorem dX0_takeBack_9 : decode cX0_takeBack 9 = .ok (.dup, 1) := by decide +kernel
theorem dX0_takeBack_10 : decode cX0_takeBack 10 = .ok (.getfield 20, 3) := by decide +kernel
theorem dX0_takeBack_13 : decode cX0_takeBack 13 = .ok (.iconst 1, 1) := by decide +kernel
theorem dX0_takeBack_14 : decode cX0_takeBack 14 = .ok (.isub, 1) := by decide +kernel
theorem dX0_takeBack_15 : decode cX0_takeBack 15 = .ok (.putfield 20, 3) := by decide +kernel
theorem dX0_takeBack_18 : decode cX0_takeBack 18 = .ok (.aload_n 0, 1) := by decide +kernel
theorem dX0_takeBack_19 : decode cX0_takeBack 19 = .ok (.aload_n 0, 1) := by decide +kernel
theorem dX0_takeBack_20 : decode cX0_takeBack 20 = .ok (.getfield 16, 3) := by decide +kernel
theorem dX0_takeBack_23 : decode cX0_takeBack 23 = .ok (.bipush 24, 2) := by decide +kernel
theorem dX0_takeBack_25 : decode cX0_takeBack 25 = .ok (.iadd, 1) := by decide +kernel
theorem dX0_takeBack_26 : decode cX0_takeBack 26 = .ok (.iconst 1, 1) := by decide +kernel
theorem dX0_takeBack_27 : decode cX0_takeBack 27 = .ok (.isub, 1) := by decide +kernel
theorem dX0_takeBack_28 : decode cX0_takeBack 28 = .ok (.bipush 24, 2) := by decide +kernel
theorem dX0_takeBack_30 : decode cX0_takeBack 30 = .ok (.irem, 1) := by decide +kernel
theorem dX0_takeBack_31 : decode cX0_takeBack 31 = .ok (.putfield 16, 3) := by decide +kernel
theorem dX0_takeBack_34 : decode cX0_takeBack 34 = .ok (.aload_n 0, 1) := by decide +kernel
theorem dX0_takeBack_35 : decode cX0_takeBack 35 = .ok (.getfield 13, 3) := by decide +kernel
theorem dX0_takeBack_38 : decode cX0_takeBack 38 = .ok (.aload_n 0, 1) := by decide +kernel
theorem dX0_takeBack_39 : decode cX0_takeBack 39 = .ok (.getfield 16, 3) := by decide +kernel
theorem dX0_takeBack_42 : decode cX0_takeBack 42 = .ok (.aaload, 1) := by decide +kernel
theorem dX0_takeBack_43 : decode cX0_takeBack 43 = .ok (.astore_n 2, 1) := by decide +kernel
theorem dX0_takeBack_44 : decode cX0_takeBack 44 = .ok (.aload_n 1, 1) := by decide +kernel
theorem dX0_takeBack_45 : decode cX0_takeBack 45 = .ok (.aload_n 2, 1) := by decide +kernel
theorem dX0_takeBack_46 : decode cX0_takeBack 46 = .ok (.iconst 0, 1) := by decide +kernel
theorem dX0_takeBack_47 : decode cX0_takeBack 47 = .ok (.iaload, 1) := by decide +kernel
theorem dX0_takeBack_48 : decode cX0_takeBack 48 = .ok (.putfield 23, 3) := by decide +kernel
theorem dX0_takeBack_51 : decode cX0_takeBack 51 = .ok (.aload_n 1, 1) := by decide +kernel
theorem dX0_takeBack_52 : decode cX0_takeBack 52 = .ok (.aload_n 2, 1) := by decide +kernel
theorem dX0_takeBack_53 : decode cX0_takeBack 53 = .ok (.iconst 1, 1) := by decide +kernel
theorem dX0_takeBack_54 : decode cX0_takeBack 54 = .ok (.iaload, 1) := by decide +kernel
theorem dX0_takeBack_55 : decode cX0_takeBack 55 = .ok (.putfield 28, 3) := by decide +kernel
theorem dX0_takeBack_58 : decode cX0_takeBack 58 = .ok (.aload_n 1, 1) := by decide +kernel
theorem dX0_takeBack_59 : decode cX0_takeBack 59 = .ok (.aload_n 2, 1) := by decide +kernel
theorem dX0_takeBack_60 : decode cX0_takeBack 60 = .ok (.iconst 2, 1) := by decide +kernel
theorem dX0_takeBack_61 : decode cX0_takeBack 61 = .ok (.iaload, 1) := by decide +kernel
theorem dX0_takeBack_62 : decode cX0_takeBack 62 = .ok (.iconst 1, 1) := by decide +kernel
theorem dX0_takeBack_63 : decode cX0_takeBack 63 = .ok (.if_icmp .ne 7, 3) := by decide +kernel
theorem dX0_takeBack_66 : decode cX0_takeBack 66 = .ok (.iconst 1, 1) := by decide +kernel
theorem dX0_takeBack_67 : decode cX0_takeBack 67 = .ok (.goto 4, 3) := by decide +kernel
theorem dX0_takeBack_70 : decode cX0_takeBack 70 = .ok (.iconst 0, 1) := by decide +kernel
theorem dX0_takeBack_71 : decode cX0_takeBack 71 = .ok (.putfield 31, 3) := by decide +kernel
theorem dX0_takeBack_74 : decode cX0_takeBack 74 = .ok (.aload_n 1, 1) := by decide +kernel
theorem dX0_takeBack_75 : decode cX0_takeBack 75 = .ok (.aload_n 2, 1) := by decide +kernel
theorem dX0_takeBack_76 : decode cX0_takeBack 76 = .ok (.iconst 3, 1) := by decide +kernel
theorem dX0_takeBack_77 : decode cX0_takeBack 77 = .ok (.iaload, 1) := by decide +kernel
theorem dX0_takeBack_78 : decode cX0_takeBack 78 = .ok (.putfield 35, 3) := by decide +kernel
theorem dX0_takeBack_81 : decode cX0_takeBack 81 = .ok (.aload_n 2, 1) := by decide +kernel
theorem dX0_takeBack_82 : decode cX0_takeBack 82 = .ok (.iconst 4, 1) := by decide +kernel
theorem dX0_takeBack_83 : decode cX0_takeBack 83 = .ok (.aload_n 1, 1) := by decide +kernel
theorem dX0_takeBack_84 : decode cX0_takeBack 84 = .ok (.getfield 38, 3) := by decide +kernel
theorem dX0_takeBack_87 : decode cX0_takeBack 87 = .ok (.iconst 0, 1) := by decide +kernel
theorem dX0_takeBack_88 : decode cX0_takeBack 88 = .ok (.bipush 7, 2) := by decide +kernel
theorem dX0_takeBack_90 : decode cX0_takeBack 90 = .ok (.invokestatic 42, 3) := by decide +kernel
theorem dX0_takeBack_93 : decode cX0_takeBack 93 = .ok (.aload_n 2, 1) := by decide +kernel
theorem dX0_takeBack_94 : decode cX0_takeBack 94 = .ok (.bipush 11, 2) := by decide +kernel
theorem dX0_takeBack_96 : decode cX0_takeBack 96 = .ok (.aload_n 1, 1) := by decide +kernel
theorem dX0_takeBack_97 : decode cX0_takeBack 97 = .ok (.getfield 48, 3) := by decide +kernel
theorem dX0_takeBack_100 : decode cX0_takeBack 100 = .ok (.iconst 0, 1) := by decide +kernel
theorem dX0_takeBack_101 : decode cX0_takeBack 101 = .ok (.bipush 7, 2) := by decide +kernel
theorem dX0_takeBack_103 : decode cX0_takeBack 103 = .ok (.invokestatic 42, 3) := by decide +kernel
theorem dX0_takeBack_106 : decode cX0_takeBack 106 = .ok (.aload_n 2, 1) := by decide +kernel
theorem dX0_takeBack_107 : decode cX0_takeBack 107 = .ok (.bipush 18, 2) := by decide +kernel
theorem dX0_takeBack_109 : decode cX0_takeBack 109 = .ok (.aload_n 1, 1) := by decide +kernel
theorem dX0_takeBack_110 : decode cX0_takeBack 110 = .ok (.getfield 51, 3) := by decide +kernel
theorem dX0_takeBack_113 : decode cX0_takeBack 113 = .ok (.iconst 0, 1) := by decide +kernel
theorem dX0_takeBack_114 : decode cX0_takeBack 114 = .ok (.bipush 7, 2) := by decide +kernel
theorem dX0_takeBack_116 : decode cX0_takeBack 116 = .ok (.invokestatic 42, 3) := by decide +kernel
theorem dX0_takeBack_119 : decode cX0_takeBack 119 = .ok (.return_, 1) := by decide +kernel
theorem dX1_init_0 : decode cX1_init 0 = .ok (.aload_n 0, 1) := by decide +kernel
theorem dX1_init_1 : decode cX1_init 1 = .ok (.invokespecial 1, 3) := by decide +kernel
theorem dX1_init_4 : decode cX1_init 4 = .ok (.aload_n 0, 1) := by decide +kernel
theorem dX1_init_5 : decode cX1_init 5 = .ok (.bipush 16, 2) := by decide +kernel
theorem dX1_init_7 : decode cX1_init 7 = .ok (.newarray .int, 2) := by decide +kernel
theorem dX1_init_9 : decode cX1_init 9 = .ok (.putfield 9, 3) := by decide +kernel
theorem dX1_init_12 : decode cX1_init 12 = .ok (.aload_n 0, 1) := by decide +kernel
theorem dX1_init_13 : decode cX1_init 13 = .ok (.iconst 0, 1) := by decide +kernel
theorem dX1_init_14 : decode cX1_init 14 = .ok (.putfield 13, 3) := by decide +kernel
theorem dX1_init_17 : decode cX1_init 17 = .ok (.return_, 1) := by decide +kernel
theorem dX1_begin_0 : decode cX1_begin 0 = .ok (.aload_n 0, 1) := by decide +kernel
theorem dX1_begin_1 : decode cX1_begin 1 = .ok (.iconst 0, 1) := by decide +kernel
theorem dX1_begin_2 : decode cX1_begin 2 = .ok (.putfield 13, 3) := by decide +kernel
theorem dX1_begin_5 : decode cX1_begin 5 = .ok (.aload_n 0, 1) := by decide +kernel
theorem dX1_begin_6 : decode cX1_begin 6 = .ok (.aload_n 1, 1) := by decide +kernel
theorem dX1_begin_7 : decode cX1_begin 7 = .ok (.iload_n 2, 1) := by decide +kernel
theorem dX1_begin_8 : decode cX1_begin 8 = .ok (.iload_n 3, 1) := by decide +kernel
theorem dX1_begin_9 : decode cX1_begin 9 = .ok (.iconst 0, 1) := by decide +kernel
theorem dX1_begin_10 : decode cX1_begin 10 = .ok (.invokevirtual 17, 3) := by decide +kernel
theorem dX1_begin_13 : decode cX1_begin 13 = .ok (.ireturn, 1) := by decide +kernel
theorem dX1_answer_0 : decode cX1_answer 0 = .ok (.aload_n 1, 1) := by decide +kernel
theorem dX1_answer_1 : decode cX1_answer 1 = .ok (.getfield 21, 3) := by decide +kernel
theorem dX1_answer_4 : decode cX1_answer 4 = .ok (.iload_n 2, 1) := by decide +kernel
theorem dX1_answer_5 : decode cX1_answer 5 = .ok (.iaload, 1) := by decide +kernel
theorem dX1_answer_6 : decode cX1_answer 6 = .ok (.istore 5, 2) := by decide +kernel
theorem dX1_answer_8 : decode cX1_answer 8 = .ok (.iload_n 3, 1) := by decide +kernel
theorem dX1_answer_9 : decode cX1_answer 9 = .ok (.ifCond .ne 9, 3) := by decide +kernel
theorem dX1_answer_12 : decode cX1_answer 12 = .ok (.getstatic 26, 3) := by decide +kernel
theorem dX1_answer_15 : decode cX1_answer 15 = .ok (.goto 6, 3) := by decide +kernel
theorem dX1_answer_18 : decode cX1_answer 18 = .ok (.getstatic 29, 3) := by decide +kernel
theorem dX1_answer_21 : decode cX1_answer 21 = .ok (.astore 6, 2) := by decide +kernel
theorem dX1_answer_23 : decode cX1_answer 23 = .ok (.iconst 0, 1) := by decide +kernel
theorem dX1_answer_24 : decode cX1_answer 24 = .ok (.istore 7, 2) := by decide +kernel
theorem dX1_answer_26 : decode cX1_answer 26 = .ok (.iload 7, 2) := by decide +kernel
theorem dX1_answer_28 : decode cX1_answer 28 = .ok (.bipush 6, 2) := by decide +kernel
theorem dX1_answer_30 : decode cX1_answer 30 = .ok (.if_icmp .ge 24, 3) := by decide +kernel
theorem dX1_answer_33 : decode cX1_answer 33 = .ok (.aload 6, 2) := by decide +kernel
theorem dX1_answer_35 : decode cX1_answer 35 = .ok (.iload 5, 2) := by decide +kernel
theorem dX1_answer_37 : decode cX1_answer 37 = .ok (.iaload, 1) := by decide +kernel
theorem dX1_answer_38 : decode cX1_answer 38 = .ok (.ifCond .ne 16, 3) := by decide +kernel
theorem dX1_answer_41 : decode cX1_answer 41 = .ok (.iload 5, 2) := by decide +kernel
theorem dX1_answer_43 : decode cX1_answer 43 = .ok (.invokestatic 34, 3) := by decide +kernel
theorem dX1_answer_46 : decode cX1_answer 46 = .ok (.istore 5, 2) := by decide +kernel
theorem dX1_answer_48 : decode cX1_answer 48 = .ok (.iinc 7 1, 3) := by decide +kernel
theorem dX1_answer_51 : decode cX1_answer 51 = .ok (.goto (-25), 3) := by decide +kernel
theorem dX1_answer_54 : decode cX1_answer 54 = .ok (.aload_n 0, 1) := by decide +kernel
theorem dX1_answer_55 : decode cX1_answer 55 = .ok (.aload_n 1, 1) := by decide +kernel
theorem dX1_answer_56 : decode cX1_answer 56 = .ok (.iload_n 2, 1) := by decide +kernel
theorem dX1_answer_57 : decode cX1_answer 57 = .ok (.aload 6, 2) := by decide +kernel
theorem dX1_answer_59 : decode cX1_answer 59 = .ok (.iload 5, 2) := by decide +kernel
theorem dX1_answer_61 : decode cX1_answer 61 = .ok (.iaload, 1) := by decide +kernel
theorem dX1_answer_62 : decode cX1_answer 62 = .ok (.iload 4, 2) := by decide +kernel
theorem dX1_answer_64 : decode cX1_answer 64 = .ok (.iconst 1, 1) := by decide +kernel
theorem dX1_answer_65 : decode cX1_answer 65 = .ok (.iadd, 1) := by decide +kernel
theorem dX1_answer_66 : decode cX1_answer 66 = .ok (.invokevirtual 38, 3) := by decide +kernel
theorem dX1_answer_69 : decode cX1_answer 69 = .ok (.ireturn, 1) := by decide +kernel
theorem dX1_give_0 : decode cX1_give 0 = .ok (.iload 4, 2) := by decide +kernel
theorem dX1_give_2 : decode cX1_give 2 = .ok (.bipush 40, 2) := by decide +kernel
theorem dX1_give_4 : decode cX1_give 4 = .ok (.if_icmp .le 5, 3) := by decide +kernel
theorem dX1_give_7 : decode cX1_give 7 = .ok (.iconst 0, 1) := by decide +kernel
theorem dX1_give_8 : decode cX1_give 8 = .ok (.ireturn, 1) := by decide +kernel
theorem dX1_give_9 : decode cX1_give 9 = .ok (.aload_n 0, 1) := by decide +kernel
theorem dX1_give_10 : decode cX1_give 10 = .ok (.iload_n 3, 1) := by decide +kernel
theorem dX1_give_11 : decode cX1_give 11 = .ok (.invokevirtual 41, 3) := by decide +kernel
theorem dX1_give_14 : decode cX1_give 14 = .ok (.iload 4, 2) := by decide +kernel
theorem dX1_give_16 : decode cX1_give 16 = .ok (.iconst 1, 1) := by decide +kernel
theorem dX1_give_17 : decode cX1_give 17 = .ok (.iadd, 1) := by decide +kernel
theorem dX1_give_18 : decode cX1_give 18 = .ok (.istore 5, 2) := by decide +kernel
theorem dX1_give_20 : decode cX1_give 20 = .ok (.iload_n 3, 1) := by decide +kernel
theorem dX1_give_21 : decode cX1_give 21 = .ok (.tableswitch 212 10 24 #[75, 82, 103, 116, 130, 212, 212, 212, 212, 212, 143, 145, 163, 178, 199], 75) := by decide +kernel
theorem dX1_give_96 : decode cX1_give 96 = .ok (.aload_n 1, 1) := by decide +kernel
theorem dX1_give_97 : decode cX1_give 97 = .ok (.getfield 45, 3) := by decide +kernel
theorem dX1_give_100 : decode cX1_give 100 = .ok (.iload_n 2, 1) := by decide +kernel
theorem dX1_give_101 : decode cX1_give 101 = .ok (.iaload, 1) := by decide +kernel
theorem dX1_give_102 : decode cX1_give 102 = .ok (.ireturn, 1) := by decide +kernel
theorem dX1_give_103 : decode cX1_give 103 = .ok (.aload_n 0, 1) := by decide +kernel
theorem dX1_give_104 : decode cX1_give 104 = .ok (.aload_n 1, 1) := by decide +kernel
theorem dX1_give_105 : decode cX1_give 105 = .ok (.iload_n 2, 1) := by decide +kernel
theorem dX1_give_106 : decode cX1_give 106 = .ok (.bipush 10, 2) := by decide +kernel
theorem dX1_give_108 : decode cX1_give 108 = .ok (.iload 5, 2) := by decide +kernel
theorem dX1_give_110 : decode cX1_give 110 = .ok (.invokevirtual 38, 3) := by decide +kernel
theorem dX1_give_113 : decode cX1_give 113 = .ok (.aload_n 0, 1) := by decide +kernel
theorem dX1_give_114 : decode cX1_give 114 = .ok (.aload_n 1, 1) := by decide +kernel
theorem dX1_give_115 : decode cX1_give 115 = .ok (.iload_n 2, 1) := by decide +kernel
theorem dX1_give_116 : decode cX1_give 116 = .ok (.iconst 1, 1) := by decide +kernel
theorem dX1_give_117 : decode cX1_give 117 = .ok (.iload 5, 2) := by decide +kernel
theorem dX1_give_119 : decode cX1_give 119 = .ok (.invokevirtual 17, 3) := by decide +kernel
theorem dX1_give_122 : decode cX1_give 122 = .ok (.iadd, 1) := by decide +kernel
theorem dX1_give_123 : decode cX1_give 123 = .ok (.ireturn, 1) := by decide +kernel
theorem dX1_give_124 : decode cX1_give 124 = .ok (.iconst 0, 1) := by decide +kernel
theorem dX1_give_125 : decode cX1_give 125 = .ok (.aload_n 0, 1) := by decide +kernel
theorem dX1_give_126 : decode cX1_give 126 = .ok (.aload_n 1, 1) := by decide +kernel
theorem dX1_give_127 : decode cX1_give 127 = .ok (.iload_n 2, 1) := by decide +kernel
theorem dX1_give_128 : decode cX1_give 128 = .ok (.bipush 11, 2) := by decide +kernel
theorem dX1_give_130 : decode cX1_give 130 = .ok (.iload 5, 2) := by decide +kernel
theorem dX1_give_132 : decode cX1_give 132 = .ok (.invokevirtual 38, 3) := by decide +kernel
theorem dX1_give_135 : decode cX1_give 135 = .ok (.isub, 1) := by decide +kernel
theorem dX1_give_136 : decode cX1_give 136 = .ok (.ireturn, 1) := by decide +kernel
theorem dX1_give_137 : decode cX1_give 137 = .ok (.aload_n 0, 1) := by decide +kernel
theorem dX1_give_138 : decode cX1_give 138 = .ok (.aload_n 1, 1) := by decide +kernel
theorem dX1_give_139 : decode cX1_give 139 = .ok (.iload_n 2, 1) := by decide +kernel
theorem dX1_give_140 : decode cX1_give 140 = .ok (.bipush 10, 2) := by decide +kernel
theorem dX1_give_142 : decode cX1_give 142 = .ok (.iload 5, 2) := by decide +kernel
theorem dX1_give_144 : decode cX1_give 144 = .ok (.invokevirtual 38, 3) := by decide +kernel
theorem dX1_give_147 : decode cX1_give 147 = .ok (.bipush 100, 2) := by decide +kernel
theorem dX1_give_149 : decode cX1_give 149 = .ok (.isub, 1) := by decide +kernel
theorem dX1_give_150 : decode cX1_give 150 = .ok (.ireturn, 1) := by decide +kernel
theorem dX1_give_151 : decode cX1_give 151 = .ok (.aload_n 0, 1) := by decide +kernel
theorem dX1_give_152 : decode cX1_give 152 = .ok (.aload_n 1, 1) := by decide +kernel
theorem dX1_give_153 : decode cX1_give 153 = .ok (.iload_n 2, 1) := by decide +kernel
theorem dX1_give_154 : decode cX1_give 154 = .ok (.bipush 13, 2) := by decide +kernel
theorem dX1_give_156 : decode cX1_give 156 = .ok (.iload 5, 2) := by decide +kernel
theorem dX1_give_158 : decode cX1_give 158 = .ok (.invokevirtual 38, 3) := by decide +kernel
theorem dX1_give_161 : decode cX1_give 161 = .ok (.iconst 2, 1) := by decide +kernel
theorem dX1_give_162 : decode cX1_give 162 = .ok (.imul, 1) := by decide +kernel
theorem dX1_give_163 : decode cX1_give 163 = .ok (.ireturn, 1) := by decide +kernel
theorem dX1_give_164 : decode cX1_give 164 = .ok (.iload_n 2, 1) := by decide +kernel
theorem dX1_give_165 : decode cX1_give 165 = .ok (.ireturn, 1) := by decide +kernel
theorem dX1_give_166 : decode cX1_give 166 = .ok (.aload_n 0, 1) := by decide +kernel
theorem dX1_give_167 : decode cX1_give 167 = .ok (.aload_n 1, 1) := by decide +kernel
theorem dX1_give_168 : decode cX1_give 168 = .ok (.iload_n 2, 1) := by decide +kernel
theorem dX1_give_169 : decode cX1_give 169 = .ok (.bipush 20, 2) := by decide +kernel
theorem dX1_give_171 : decode cX1_give 171 = .ok (.iload 5, 2) := by decide +kernel
theorem dX1_give_173 : decode cX1_give 173 = .ok (.invokevirtual 38, 3) := by decide +kernel
theorem dX1_give_176 : decode cX1_give 176 = .ok (.aload_n 1, 1) := by decide +kernel
theorem dX1_give_177 : decode cX1_give 177 = .ok (.getfield 48, 3) := by decide +kernel
theorem dX1_give_180 : decode cX1_give 180 = .ok (.iload_n 2, 1) := by decide +kernel
theorem dX1_give_181 : decode cX1_give 181 = .ok (.iaload, 1) := by decide +kernel
theorem dX1_give_182 : decode cX1_give 182 = .ok (.iadd, 1) := by decide +kernel
theorem dX1_give_183 : decode cX1_give 183 = .ok (.ireturn, 1) := by decide +kernel
theorem dX1_give_184 : decode cX1_give 184 = .ok (.aload_n 0, 1) := by decide +kernel
theorem dX1_give_185 : decode cX1_give 185 = .ok (.aload_n 1, 1) := by decide +kernel
theorem dX1_give_186 : decode cX1_give 186 = .ok (.iload_n 2, 1) := by decide +kernel
theorem dX1_give_187 : decode cX1_give 187 = .ok (.bipush 21, 2) := by decide +kernel
theorem dX1_give_189 : decode cX1_give 189 = .ok (.iload 5, 2) := by decide +kernel
theorem dX1_give_191 : decode cX1_give 191 = .ok (.invokevirtual 38, 3) := by decide +kernel
theorem dX1_give_194 : decode cX1_give 194 = .ok (.sipush 1000, 3) := by decide +kernel
theorem dX1_give_197 : decode cX1_give 197 = .ok (.isub, 1) := by decide +kernel
theorem dX1_give_198 : decode cX1_give 198 = .ok (.ireturn, 1) := by decide +kernel
theorem dX1_give_199 : decode cX1_give 199 = .ok (.aload_n 0, 1) := by decide +kernel
theorem dX1_give_200 : decode cX1_give 200 = .ok (.aload_n 1, 1) := by decide +kernel
theorem dX1_give_201 : decode cX1_give 201 = .ok (.iload_n 2, 1) := by decide +kernel
theorem dX1_give_202 : decode cX1_give 202 = .ok (.bipush 20, 2) := by decide +kernel
theorem dX1_give_204 : decode cX1_give 204 = .ok (.iload 5, 2) := by decide +kernel
theorem dX1_give_206 : decode cX1_give 206 = .ok (.invokevirtual 38, 3) := by decide +kernel
theorem dX1_give_209 : decode cX1_give 209 = .ok (.aload_n 0, 1) := by decide +kernel
theorem dX1_give_210 : decode cX1_give 210 = .ok (.aload_n 1, 1) := by decide +kernel
theorem dX1_give_211 : decode cX1_give 211 = .ok (.iload_n 2, 1) := by decide +kernel
theorem dX1_give_212 : decode cX1_give 212 = .ok (.iconst 0, 1) := by decide +kernel
theorem dX1_give_213 : decode cX1_give 213 = .ok (.iload 5, 2) := by decide +kernel
theorem dX1_give_215 : decode cX1_give 215 = .ok (.invokevirtual 17, 3) := by decide +kernel
theorem dX1_give_218 : decode cX1_give 218 = .ok (.isub, 1) := by decide +kernel
theorem dX1_give_219 : decode cX1_give 219 = .ok (.ireturn, 1) := by decide +kernel
theorem dX1_give_220 : decode cX1_give 220 = .ok (.aload_n 0, 1) := by decide +kernel
theorem dX1_give_221 : decode cX1_give 221 = .ok (.aload_n 1, 1) := by decide +kernel
theorem dX1_give_222 : decode cX1_give 222 = .ok (.iload_n 2, 1) := by decide +kernel
theorem dX1_give_223 : decode cX1_give 223 = .ok (.bipush 21, 2) := by decide +kernel
theorem dX1_give_225 : decode cX1_give 225 = .ok (.iload 5, 2) := by decide +kernel
theorem dX1_give_227 : decode cX1_give 227 = .ok (.invokevirtual 38, 3) := by decide +kernel
theorem dX1_give_230 : decode cX1_give 230 = .ok (.iconst 2, 1) := by decide +kernel
theorem dX1_give_231 : decode cX1_give 231 = .ok (.imul, 1) := by decide +kernel
theorem dX1_give_232 : decode cX1_give 232 = .ok (.ireturn, 1) := by decide +kernel
theorem dX1_give_233 : decode cX1_give 233 = .ok (.iconst 0, 1) := by decide +kernel
theorem dX1_give_234 : decode cX1_give 234 = .ok (.ireturn, 1) := by decide +kernel
theorem dX1_leaveInTrace_0 : decode cX1_leaveInTrace 0 = .ok (.aload_n 0, 1) := by decide +kernel
theorem dX1_leaveInTrace_1 : decode cX1_leaveInTrace 1 = .ok (.getfield 13, 3) := by decide +kernel
theorem dX1_leaveInTrace_4 : decode cX1_leaveInTrace 4 = .ok (.bipush 16, 2) := by decide +kernel
theorem dX1_leaveInTrace_6 : decode cX1_leaveInTrace 6 = .ok (.if_icmp .ge 23, 3) := by decide +kernel
theorem dX1_leaveInTrace_9 : decode cX1_leaveInTrace 9 = .ok (.aload_n 0, 1) := by decide +kernel
theorem dX1_leaveInTrace_10 : decode cX1_leaveInTrace 10 = .ok (.getfield 9, 3) := by decide +kernel
theorem dX1_leaveInTrace_13 : decode cX1_leaveInTrace 13 = .ok (.aload_n 0, 1) := by decide +kernel
theorem dX1_leaveInTrace_14 : decode cX1_leaveInTrace 14 = .ok (.getfield 13, 3) := by decide +kernel
theorem dX1_leaveInTrace_17 : decode cX1_leaveInTrace 17 = .ok (.iload_n 1, 1) := by decide +kernel
theorem dX1_leaveInTrace_18 : decode cX1_leaveInTrace 18 = .ok (.iastore, 1) := by decide +kernel
theorem dX1_leaveInTrace_19 : decode cX1_leaveInTrace 19 = .ok (.aload_n 0, 1) := by decide +kernel
theorem dX1_leaveInTrace_20 : decode cX1_leaveInTrace 20 = .ok (.dup, 1) := by decide +kernel
theorem dX1_leaveInTrace_21 : decode cX1_leaveInTrace 21 = .ok (.getfield 13, 3) := by decide +kernel
theorem dX1_leaveInTrace_24 : decode cX1_leaveInTrace 24 = .ok (.iconst 1, 1) := by decide +kernel
theorem dX1_leaveInTrace_25 : decode cX1_leaveInTrace 25 = .ok (.iadd, 1) := by decide +kernel
theorem dX1_leaveInTrace_26 : decode cX1_leaveInTrace 26 = .ok (.putfield 13, 3) := by decide +kernel
theorem dX1_leaveInTrace_29 : decode cX1_leaveInTrace 29 = .ok (.return_, 1) := by decide +kernel
theorem dX2_init_0 : decode cX2_init 0 = .ok (.aload_n 0, 1) := by decide +kernel
theorem dX2_init_1 : decode cX2_init 1 = .ok (.invokespecial 3, 3) := by decide +kernel
theorem dX2_init_4 : decode cX2_init 4 = .ok (.aload_n 0, 1) := by decide +kernel
theorem dX2_init_5 : decode cX2_init 5 = .ok (.iconst 0, 1) := by decide +kernel
theorem dX2_init_6 : decode cX2_init 6 = .ok (.putfield 9, 3) := by decide +kernel
theorem dX2_init_9 : decode cX2_init 9 = .ok (.aload_n 0, 1) := by decide +kernel
theorem dX2_init_10 : decode cX2_init 10 = .ok (.iconst 0, 1) := by decide +kernel
theorem dX2_init_11 : decode cX2_init 11 = .ok (.putfield 15, 3) := by decide +kernel
theorem dX2_init_14 : decode cX2_init 14 = .ok (.aload_n 0, 1) := by decide +kernel
theorem dX2_init_15 : decode cX2_init 15 = .ok (.iconst 0, 1) := by decide +kernel
theorem dX2_init_16 : decode cX2_init 16 = .ok (.putfield 18, 3) := by decide +kernel
theorem dX2_init_19 : decode cX2_init 19 = .ok (.aload_n 0, 1) := by decide +kernel
theorem dX2_init_20 : decode cX2_init 20 = .ok (.bipush 7, 2) := by decide +kernel
theorem dX2_init_22 : decode cX2_init 22 = .ok (.newarray .int, 2) := by decide +kernel
theorem dX2_init_24 : decode cX2_init 24 = .ok (.putfield 21, 3) := by decide +kernel
theorem dX2_init_27 : decode cX2_init 27 = .ok (.aload_n 0, 1) := by decide +kernel
theorem dX2_init_28 : decode cX2_init 28 = .ok (.bipush 7, 2) := by decide +kernel
theorem dX2_init_30 : decode cX2_init 30 = .ok (.newarray .int, 2) := by decide +kernel
theorem dX2_init_32 : decode cX2_init 32 = .ok (.putfield 25, 3) := by decide +kernel
theorem dX2_init_35 : decode cX2_init 35 = .ok (.aload_n 0, 1) := by decide +kernel
theorem dX2_init_36 : decode cX2_init 36 = .ok (.bipush 7, 2) := by decide +kernel
theorem dX2_init_38 : decode cX2_init 38 = .ok (.newarray .int, 2) := by decide +kernel
theorem dX2_init_40 : decode cX2_init 40 = .ok (.putfield 28, 3) := by decide +kernel
theorem dX2_init_43 : decode cX2_init 43 = .ok (.aload_n 0, 1) := by decide +kernel
theorem dX2_init_44 : decode cX2_init 44 = .ok (.iconst 0, 1) := by decide +kernel
theorem dX2_init_45 : decode cX2_init 45 = .ok (.putfield 31, 3) := by decide +kernel
theorem dX2_init_48 : decode cX2_init 48 = .ok (.aload_n 0, 1) := by decide +kernel
theorem dX2_init_49 : decode cX2_init 49 = .ok (.iconst 0, 1) := by decide +kernel
theorem dX2_init_50 : decode cX2_init 50 = .ok (.putfield 34, 3) := by decide +kernel
theorem dX2_init_53 : decode cX2_init 53 = .ok (.aload_n 0, 1) := by decide +kernel
theorem dX2_init_54 : decode cX2_init 54 = .ok (.iconst 0, 1) := by decide +kernel
theorem dX2_init_55 : decode cX2_init 55 = .ok (.putfield 37, 3) := by decide +kernel
theorem dX2_init_58 : decode cX2_init 58 = .ok (.aload_n 0, 1) := by decide +kernel
theorem dX2_init_59 : decode cX2_init 59 = .ok (.iconst 0, 1) := by decide +kernel
theorem dX2_init_60 : decode cX2_init 60 = .ok (.putfield 41, 3) := by decide +kernel
theorem dX2_init_63 : decode cX2_init 63 = .ok (.aload_n 0, 1) := by decide +kernel
theorem dX2_init_64 : decode cX2_init 64 = .ok (.bipush 7, 2) := by decide +kernel
theorem dX2_init_66 : decode cX2_init 66 = .ok (.newarray .int, 2) := by decide +kernel
theorem dX2_init_68 : decode cX2_init 68 = .ok (.putfield 44, 3) := by decide +kernel
theorem dX2_init_71 : decode cX2_init 71 = .ok (.aload_n 0, 1) := by decide +kernel
theorem dX2_init_72 : decode cX2_init 72 = .ok (.bipush 7, 2) := by decide +kernel
theorem dX2_init_74 : decode cX2_init 74 = .ok (.newarray .int, 2) := by decide +kernel
theorem dX2_init_76 : decode cX2_init 76 = .ok (.putfield 47, 3) := by decide +kernel
theorem dX2_init_79 : decode cX2_init 79 = .ok (.aload_n 0, 1) := by decide +kernel
theorem dX2_init_80 : decode cX2_init 80 = .ok (.bipush 7, 2) := by decide +kernel
theorem dX2_init_82 : decode cX2_init 82 = .ok (.newarray .int, 2) := by decide +kernel
theorem dX2_init_84 : decode cX2_init 84 = .ok (.putfield 50, 3) := by decide +kernel
theorem dX2_init_87 : decode cX2_init 87 = .ok (.return_, 1) := by decide +kernel
theorem dX2_clear_0 : decode cX2_clear 0 = .ok (.aload_n 0, 1) := by decide +kernel
theorem dX2_clear_1 : decode cX2_clear 1 = .ok (.iconst 0, 1) := by decide +kernel
theorem dX2_clear_2 : decode cX2_clear 2 = .ok (.putfield 9, 3) := by decide +kernel
theorem dX2_clear_5 : decode cX2_clear 5 = .ok (.aload_n 0, 1) := by decide +kernel
theorem dX2_clear_6 : decode cX2_clear 6 = .ok (.iconst 0, 1) := by decide +kernel
theorem dX2_clear_7 : decode cX2_clear 7 = .ok (.putfield 15, 3) := by decide +kernel
theorem dX2_clear_10 : decode cX2_clear 10 = .ok (.aload_n 0, 1) := by decide +kernel
theorem dX2_clear_11 : decode cX2_clear 11 = .ok (.iconst 0, 1) := by decide +kernel
theorem dX2_clear_12 : decode cX2_clear 12 = .ok (.putfield 18, 3) := by decide +kernel
theorem dX2_clear_15 : decode cX2_clear 15 = .ok (.aload_n 0, 1) := by decide +kernel
theorem dX2_clear_16 : decode cX2_clear 16 = .ok (.iconst 0, 1) := by decide +kernel
theorem dX2_clear_17 : decode cX2_clear 17 = .ok (.putfield 31, 3) := by decide +kernel
theorem dX2_clear_20 : decode cX2_clear 20 = .ok (.aload_n 0, 1) := by decide +kernel
theorem dX2_clear_21 : decode cX2_clear 21 = .ok (.iconst 0, 1) := by decide +kernel
theorem dX2_clear_22 : decode cX2_clear 22 = .ok (.putfield 34, 3) := by decide +kernel
theorem dX2_clear_25 : decode cX2_clear 25 = .ok (.aload_n 0, 1) := by decide +kernel
theorem dX2_clear_26 : decode cX2_clear 26 = .ok (.iconst 0, 1) := by decide +kernel
theorem dX2_clear_27 : decode cX2_clear 27 = .ok (.putfield 37, 3) := by decide +kernel
theorem dX2_clear_30 : decode cX2_clear 30 = .ok (.aload_n 0, 1) := by decide +kernel
theorem dX2_clear_31 : decode cX2_clear 31 = .ok (.iconst 0, 1) := by decide +kernel
theorem dX2_clear_32 : decode cX2_clear 32 = .ok (.putfield 41, 3) := by decide +kernel
theorem dX2_clear_35 : decode cX2_clear 35 = .ok (.return_, 1) := by decide +kernel
theorem dX2_addMan_0 : decode cX2_addMan 0 = .ok (.aload_n 0, 1) := by decide +kernel
theorem dX2_addMan_1 : decode cX2_addMan 1 = .ok (.getfield 18, 3) := by decide +kernel
theorem dX2_addMan_4 : decode cX2_addMan 4 = .ok (.bipush 7, 2) := by decide +kernel
theorem dX2_addMan_6 : decode cX2_addMan 6 = .ok (.if_icmp .lt 4, 3) := by decide +kernel
theorem dX2_addMan_9 : decode cX2_addMan 9 = .ok (.return_, 1) := by decide +kernel
theorem dX2_addMan_10 : decode cX2_addMan 10 = .ok (.aload_n 0, 1) := by decide +kernel
theorem dX2_addMan_11 : decode cX2_addMan 11 = .ok (.getfield 21, 3) := by decide +kernel
theorem dX2_addMan_14 : decode cX2_addMan 14 = .ok (.aload_n 0, 1) := by decide +kernel
theorem dX2_addMan_15 : decode cX2_addMan 15 = .ok (.getfield 18, 3) := by decide +kernel
theorem dX2_addMan_18 : decode cX2_addMan 18 = .ok (.iload_n 1, 1) := by decide +kernel
theorem dX2_addMan_19 : decode cX2_addMan 19 = .ok (.iastore, 1) := by decide +kernel
theorem dX2_addMan_20 : decode cX2_addMan 20 = .ok (.aload_n 0, 1) := by decide +kernel
theorem dX2_addMan_21 : decode cX2_addMan 21 = .ok (.getfield 25, 3) := by decide +kernel
theorem dX2_addMan_24 : decode cX2_addMan 24 = .ok (.aload_n 0, 1) := by decide +kernel
theorem dX2_addMan_25 : decode cX2_addMan 25 = .ok (.getfield 18, 3) := by decide +kernel
theorem dX2_addMan_28 : decode cX2_addMan 28 = .ok (.iload_n 2, 1) := by decide +kernel
theorem dX2_addMan_29 : decode cX2_addMan 29 = .ok (.iastore, 1) := by decide +kernel
theorem dX2_addMan_30 : decode cX2_addMan 30 = .ok (.aload_n 0, 1) := by decide +kernel
theorem dX2_addMan_31 : decode cX2_addMan 31 = .ok (.getfield 28, 3) := by decide +kernel
theorem dX2_addMan_34 : decode cX2_addMan 34 = .ok (.aload_n 0, 1) := by decide +kernel
theorem dX2_addMan_35 : decode cX2_addMan 35 = .ok (.getfield 18, 3) := by decide +kernel
theorem dX2_addMan_38 : decode cX2_addMan 38 = .ok (.iload_n 3, 1) := by decide +kernel
theorem dX2_addMan_39 : decode cX2_addMan 39 = .ok (.iastore, 1) := by decide +kernel
theorem dX2_addMan_40 : decode cX2_addMan 40 = .ok (.aload_n 0, 1) := by decide +kernel
theorem dX2_addMan_41 : decode cX2_addMan 41 = .ok (.getfield 47, 3) := by decide +kernel
theorem dX2_addMan_44 : decode cX2_addMan 44 = .ok (.aload_n 0, 1) := by decide +kernel
theorem dX2_addMan_45 : decode cX2_addMan 45 = .ok (.getfield 18, 3) := by decide +kernel
theorem dX2_addMan_48 : decode cX2_addMan 48 = .ok (.iconst 0, 1) := by decide +kernel
theorem dX2_addMan_49 : decode cX2_addMan 49 = .ok (.iastore, 1) := by decide +kernel
theorem dX2_addMan_50 : decode cX2_addMan 50 = .ok (.aload_n 0, 1) := by decide +kernel
theorem dX2_addMan_51 : decode cX2_addMan 51 = .ok (.dup, 1) := by decide +kernel
theorem dX2_addMan_52 : decode cX2_addMan 52 = .ok (.getfield 18, 3) := by decide +kernel
theorem dX2_addMan_55 : decode cX2_addMan 55 = .ok (.iconst 1, 1) := by decide +kernel
theorem dX2_addMan_56 : decode cX2_addMan 56 = .ok (.iadd, 1) := by decide +kernel
theorem dX2_addMan_57 : decode cX2_addMan 57 = .ok (.putfield 18, 3) := by decide +kernel
theorem dX2_addMan_60 : decode cX2_addMan 60 = .ok (.aload_n 0, 1) := by decide +kernel
theorem dX2_addMan_61 : decode cX2_addMan 61 = .ok (.aload_n 0, 1) := by decide +kernel
theorem dX2_addMan_62 : decode cX2_addMan 62 = .ok (.getfield 18, 3) := by decide +kernel
theorem dX2_addMan_65 : decode cX2_addMan 65 = .ok (.iconst 1, 1) := by decide +kernel
theorem dX2_addMan_66 : decode cX2_addMan 66 = .ok (.isub, 1) := by decide +kernel
theorem dX2_addMan_67 : decode cX2_addMan 67 = .ok (.aload_n 0, 1) := by decide +kernel
theorem dX2_addMan_68 : decode cX2_addMan 68 = .ok (.getfield 41, 3) := by decide +kernel
theorem dX2_addMan_71 : decode cX2_addMan 71 = .ok (.invokevirtual 53, 3) := by decide +kernel
theorem dX2_addMan_74 : decode cX2_addMan 74 = .ok (.return_, 1) := by decide +kernel
theorem dX2_become_0 : decode cX2_become 0 = .ok (.aload_n 0, 1) := by decide +kernel
theorem dX2_become_1 : decode cX2_become 1 = .ok (.aload_n 1, 1) := by decide +kernel
theorem dX2_become_2 : decode cX2_become 2 = .ok (.getfield 9, 3) := by decide +kernel
theorem dX2_become_5 : decode cX2_become 5 = .ok (.putfield 9, 3) := by decide +kernel
theorem dX2_become_8 : decode cX2_become 8 = .ok (.aload_n 0, 1) := by decide +kernel
theorem dX2_become_9 : decode cX2_become 9 = .ok (.aload_n 1, 1) := by decide +kernel
theorem dX2_become_10 : decode cX2_become 10 = .ok (.getfield 15, 3) := by decide +kernel
theorem dX2_become_13 : decode cX2_become 13 = .ok (.putfield 15, 3) := by decide +kernel
theorem dX2_become_16 : decode cX2_become 16 = .ok (.aload_n 0, 1) := by decide +kernel
theorem dX2_become_17 : decode cX2_become 17 = .ok (.aload_n 1, 1) := by decide +kernel
theorem dX2_become_18 : decode cX2_become 18 = .ok (.getfield 18, 3) := by decide +kernel
theorem dX2_become_21 : decode cX2_become 21 = .ok (.putfield 18, 3) := by decide +kernel
theorem dX2_become_24 : decode cX2_become 24 = .ok (.aload_n 0, 1) := by decide +kernel
theorem dX2_become_25 : decode cX2_become 25 = .ok (.aload_n 1, 1) := by decide +kernel
theorem dX2_become_26 : decode cX2_become 26 = .ok (.getfield 31, 3) := by decide +kernel
theorem dX2_become_29 : decode cX2_become 29 = .ok (.putfield 31, 3) := by decide +kernel
theorem dX2_become_32 : decode cX2_become 32 = .ok (.aload_n 0, 1) := by decide +kernel
theorem dX2_become_33 : decode cX2_become 33 = .ok (.aload_n 1, 1) := by decide +kernel
theorem dX2_become_34 : decode cX2_become 34 = .ok (.getfield 34, 3) := by decide +kernel
theorem dX2_become_37 : decode cX2_become 37 = .ok (.putfield 34, 3) := by decide +kernel
theorem dX2_become_40 : decode cX2_become 40 = .ok (.aload_n 0, 1) := by decide +kernel
theorem dX2_become_41 : decode cX2_become 41 = .ok (.aload_n 1, 1) := by decide +kernel
theorem dX2_become_42 : decode cX2_become 42 = .ok (.getfield 37, 3) := by decide +kernel
theorem dX2_become_45 : decode cX2_become 45 = .ok (.putfield 37, 3) := by decide +kernel
theorem dX2_become_48 : decode cX2_become 48 = .ok (.aload_n 0, 1) := by decide +kernel
theorem dX2_become_49 : decode cX2_become 49 = .ok (.aload_n 1, 1) := by decide +kernel
theorem dX2_become_50 : decode cX2_become 50 = .ok (.getfield 41, 3) := by decide +kernel
theorem dX2_become_53 : decode cX2_become 53 = .ok (.putfield 41, 3) := by decide +kernel
theorem dX2_become_56 : decode cX2_become 56 = .ok (.iconst 0, 1) := by decide +kernel
theorem dX2_become_57 : decode cX2_become 57 = .ok (.istore_n 2, 1) := by decide +kernel
theorem dX2_become_58 : decode cX2_become 58 = .ok (.iload_n 2, 1) := by decide +kernel
theorem dX2_become_59 : decode cX2_become 59 = .ok (.bipush 7, 2) := by decide +kernel
theorem dX2_become_61 : decode cX2_become 61 = .ok (.if_icmp .ge 81, 3) := by decide +kernel
theorem dX2_become_64 : decode cX2_become 64 = .ok (.aload_n 0, 1) := by decide +kernel
theorem dX2_become_65 : decode cX2_become 65 = .ok (.getfield 21, 3) := by decide +kernel
theorem dX2_become_68 : decode cX2_become 68 = .ok (.iload_n 2, 1) := by decide +kernel
theorem dX2_become_69 : decode cX2_become 69 = .ok (.aload_n 1, 1) := by decide +kernel
theorem dX2_become_70 : decode cX2_become 70 = .ok (.getfield 21, 3) := by decide +kernel
theorem dX2_become_73 : decode cX2_become 73 = .ok (.iload_n 2, 1) := by decide +kernel
theorem dX2_become_74 : decode cX2_become 74 = .ok (.iaload, 1) := by decide +kernel
theorem dX2_become_75 : decode cX2_become 75 = .ok (.iastore, 1) := by decide +kernel
theorem dX2_become_76 : decode cX2_become 76 = .ok (.aload_n 0, 1) := by decide +kernel
theorem dX2_become_77 : decode cX2_become 77 = .ok (.getfield 25, 3) := by decide +kernel
theorem dX2_become_80 : decode cX2_become 80 = .ok (.iload_n 2, 1) := by decide +kernel
theorem dX2_become_81 : decode cX2_become 81 = .ok (.aload_n 1, 1) := by decide +kernel
theorem dX2_become_82 : decode cX2_become 82 = .ok (.getfield 25, 3) := by decide +kernel
theorem dX2_become_85 : decode cX2_become 85 = .ok (.iload_n 2, 1) := by decide +kernel
theorem dX2_become_86 : decode cX2_become 86 = .ok (.iaload, 1) := by decide +kernel
theorem dX2_become_87 : decode cX2_become 87 = .ok (.iastore, 1) := by decide +kernel
theorem dX2_become_88 : decode cX2_become 88 = .ok (.aload_n 0, 1) := by decide +kernel
theorem dX2_become_89 : decode cX2_become 89 = .ok (.getfield 28, 3) := by decide +kernel
theorem dX2_become_92 : decode cX2_become 92 = .ok (.iload_n 2, 1) := by decide +kernel
theorem dX2_become_93 : decode cX2_become 93 = .ok (.aload_n 1, 1) := by decide +kernel
theorem dX2_become_94 : decode cX2_become 94 = .ok (.getfield 28, 3) := by decide +kernel
theorem dX2_become_97 : decode cX2_become 97 = .ok (.iload_n 2, 1) := by decide +kernel
theorem dX2_become_98 : decode cX2_become 98 = .ok (.iaload, 1) := by decide +kernel
theorem dX2_become_99 : decode cX2_become 99 = .ok (.iastore, 1) := by decide +kernel
theorem dX2_become_100 : decode cX2_become 100 = .ok (.aload_n 0, 1) := by decide +kernel
theorem dX2_become_101 : decode cX2_become 101 = .ok (.getfield 44, 3) := by decide +kernel
theorem dX2_become_104 : decode cX2_become 104 = .ok (.iload_n 2, 1) := by decide +kernel
theorem dX2_become_105 : decode cX2_become 105 = .ok (.aload_n 1, 1) := by decide +kernel
theorem dX2_become_106 : decode cX2_become 106 = .ok (.getfield 44, 3) := by decide +kernel
theorem dX2_become_109 : decode cX2_become 109 = .ok (.iload_n 2, 1) := by decide +kernel
theorem dX2_become_110 : decode cX2_become 110 = .ok (.iaload, 1) := by decide +kernel
theorem dX2_become_111 : decode cX2_become 111 = .ok (.iastore, 1) := by decide +kernel
theorem dX2_become_112 : decode cX2_become 112 = .ok (.aload_n 0, 1) := by decide +kernel
theorem dX2_become_113 : decode cX2_become 113 = .ok (.getfield 47, 3) := by decide +kernel
theorem dX2_become_116 : decode cX2_become 116 = .ok (.iload_n 2, 1) := by decide +kernel
theorem dX2_become_117 : decode cX2_become 117 = .ok (.aload_n 1, 1) := by decide +kernel
theorem dX2_become_118 : decode cX2_become 118 = .ok (.getfield 47, 3) := by decide +kernel
theorem dX2_become_121 : decode cX2_become 121 = .ok (.iload_n 2, 1) := by decide +kernel
theorem dX2_become_122 : decode cX2_become 122 = .ok (.iaload, 1) := by decide +kernel
theorem dX2_become_123 : decode cX2_become 123 = .ok (.iastore, 1) := by decide +kernel
theorem dX2_become_124 : decode cX2_become 124 = .ok (.aload_n 0, 1) := by decide +kernel
theorem dX2_become_125 : decode cX2_become 125 = .ok (.getfield 50, 3) := by decide +kernel
theorem dX2_become_128 : decode cX2_become 128 = .ok (.iload_n 2, 1) := by decide +kernel
theorem dX2_become_129 : decode cX2_become 129 = .ok (.aload_n 1, 1) := by decide +kernel
theorem dX2_become_130 : decode cX2_become 130 = .ok (.getfield 50, 3) := by decide +kernel
theorem dX2_become_133 : decode cX2_become 133 = .ok (.iload_n 2, 1) := by decide +kernel
theorem dX2_become_134 : decode cX2_become 134 = .ok (.iaload, 1) := by decide +kernel
theorem dX2_become_135 : decode cX2_become 135 = .ok (.iastore, 1) := by decide +kernel
theorem dX2_become_136 : decode cX2_become 136 = .ok (.iinc 2 1, 3) := by decide +kernel
theorem dX2_become_139 : decode cX2_become 139 = .ok (.goto (-81), 3) := by decide +kernel
theorem dX2_become_142 : decode cX2_become 142 = .ok (.return_, 1) := by decide +kernel
theorem dX2_sunIn_0 : decode cX2_sunIn 0 = .ok (.iload_n 1, 1) := by decide +kernel
theorem dX2_sunIn_1 : decode cX2_sunIn 1 = .ok (.aload_n 0, 1) := by decide +kernel
theorem dX2_sunIn_2 : decode cX2_sunIn 2 = .ok (.getfield 9, 3) := by decide +kernel
theorem dX2_sunIn_5 : decode cX2_sunIn 5 = .ok (.isub, 1) := by decide +kernel
theorem dX2_sunIn_6 : decode cX2_sunIn 6 = .ok (.invokestatic 57, 3) := by decide +kernel
theorem dX2_sunIn_9 : decode cX2_sunIn 9 = .ok (.istore_n 2, 1) := by decide +kernel
theorem dX2_sunIn_10 : decode cX2_sunIn 10 = .ok (.iconst 0, 1) := by decide +kernel
theorem dX2_sunIn_11 : decode cX2_sunIn 11 = .ok (.aload_n 0, 1) := by decide +kernel
theorem dX2_sunIn_12 : decode cX2_sunIn 12 = .ok (.getfield 15, 3) := by decide +kernel
theorem dX2_sunIn_15 : decode cX2_sunIn 15 = .ok (.iload_n 2, 1) := by decide +kernel
theorem dX2_sunIn_16 : decode cX2_sunIn 16 = .ok (.bipush 24, 2) := by decide +kernel
theorem dX2_sunIn_18 : decode cX2_sunIn 18 = .ok (.iload_n 2, 1) := by decide +kernel
theorem dX2_sunIn_19 : decode cX2_sunIn 19 = .ok (.isub, 1) := by decide +kernel
theorem dX2_sunIn_20 : decode cX2_sunIn 20 = .ok (.invokestatic 63, 3) := by decide +kernel
theorem dX2_sunIn_23 : decode cX2_sunIn 23 = .ok (.isub, 1) := by decide +kernel
theorem dX2_sunIn_24 : decode cX2_sunIn 24 = .ok (.invokestatic 67, 3) := by decide +kernel
theorem dX2_sunIn_27 : decode cX2_sunIn 27 = .ok (.ireturn, 1) := by decide +kernel
theorem dX2_sunNow_0 : decode cX2_sunNow 0 = .ok (.aload_n 0, 1) := by decide +kernel
theorem dX2_sunNow_1 : decode cX2_sunNow 1 = .ok (.aload_n 0, 1) := by decide +kernel
theorem dX2_sunNow_2 : decode cX2_sunNow 2 = .ok (.getfield 31, 3) := by decide +kernel
theorem dX2_sunNow_5 : decode cX2_sunNow 5 = .ok (.bipush 24, 2) := by decide +kernel
theorem dX2_sunNow_7 : decode cX2_sunNow 7 = .ok (.irem, 1) := by decide +kernel
theorem dX2_sunNow_8 : decode cX2_sunNow 8 = .ok (.invokevirtual 70, 3) := by decide +kernel
theorem dX2_sunNow_11 : decode cX2_sunNow 11 = .ok (.ireturn, 1) := by decide +kernel
theorem dX2_hasSun_0 : decode cX2_hasSun 0 = .ok (.aload_n 0, 1) := by decide +kernel
theorem dX2_hasSun_1 : decode cX2_hasSun 1 = .ok (.getfield 37, 3) := by decide +kernel
theorem dX2_hasSun_4 : decode cX2_hasSun 4 = .ok (.ifCond .eq 21, 3) := by decide +kernel
theorem dX2_hasSun_7 : decode cX2_hasSun 7 = .ok (.iload_n 1, 1) := by decide +kernel
theorem dX2_hasSun_8 : decode cX2_hasSun 8 = .ok (.aload_n 0, 1) := by decide +kernel
theorem dX2_hasSun_9 : decode cX2_hasSun 9 = .ok (.getfield 41, 3) := by decide +kernel
theorem dX2_hasSun_12 : decode cX2_hasSun 12 = .ok (.iload_n 2, 1) := by decide +kernel
theorem dX2_hasSun_13 : decode cX2_hasSun 13 = .ok (.isub, 1) := by decide +kernel
theorem dX2_hasSun_14 : decode cX2_hasSun 14 = .ok (.if_icmp .lt 7, 3) := by decide +kernel
theorem dX2_hasSun_17 : decode cX2_hasSun 17 = .ok (.iconst 1, 1) := by decide +kernel
theorem dX2_hasSun_18 : decode cX2_hasSun 18 = .ok (.goto 17, 3) := by decide +kernel
theorem dX2_hasSun_21 : decode cX2_hasSun 21 = .ok (.iconst 0, 1) := by decide +kernel
theorem dX2_hasSun_22 : decode cX2_hasSun 22 = .ok (.goto 13, 3) := by decide +kernel
theorem dX2_hasSun_25 : decode cX2_hasSun 25 = .ok (.iload_n 1, 1) := by decide +kernel
theorem dX2_hasSun_26 : decode cX2_hasSun 26 = .ok (.iload_n 2, 1) := by decide +kernel
theorem dX2_hasSun_27 : decode cX2_hasSun 27 = .ok (.if_icmp .ge 7, 3) := by decide +kernel
theorem dX2_hasSun_30 : decode cX2_hasSun 30 = .ok (.iconst 1, 1) := by decide +kernel
theorem dX2_hasSun_31 : decode cX2_hasSun 31 = .ok (.goto 4, 3) := by decide +kernel
theorem dX2_hasSun_34 : decode cX2_hasSun 34 = .ok (.iconst 0, 1) := by decide +kernel
theorem dX2_hasSun_35 : decode cX2_hasSun 35 = .ok (.ireturn, 1) := by decide +kernel
theorem dX2_sitsInSun_0 : decode cX2_sitsInSun 0 = .ok (.aload_n 0, 1) := by decide +kernel
theorem dX2_sitsInSun_1 : decode cX2_sitsInSun 1 = .ok (.iload_n 1, 1) := by decide +kernel
theorem dX2_sitsInSun_2 : decode cX2_sitsInSun 2 = .ok (.invokevirtual 73, 3) := by decide +kernel
theorem dX2_sitsInSun_5 : decode cX2_sitsInSun 5 = .ok (.istore_n 2, 1) := by decide +kernel
theorem dX2_sitsInSun_6 : decode cX2_sitsInSun 6 = .ok (.iload_n 2, 1) := by decide +kernel
theorem dX2_sitsInSun_7 : decode cX2_sitsInSun 7 = .ok (.ifCond .lt 19, 3) := by decide +kernel
theorem dX2_sitsInSun_10 : decode cX2_sitsInSun 10 = .ok (.aload_n 0, 1) := by decide +kernel
theorem dX2_sitsInSun_11 : decode cX2_sitsInSun 11 = .ok (.iload_n 2, 1) := by decide +kernel
theorem dX2_sitsInSun_12 : decode cX2_sitsInSun 12 = .ok (.aload_n 0, 1) := by decide +kernel
theorem dX2_sitsInSun_13 : decode cX2_sitsInSun 13 = .ok (.invokevirtual 76, 3) := by decide +kernel
theorem dX2_sitsInSun_16 : decode cX2_sitsInSun 16 = .ok (.invokevirtual 80, 3) := by decide +kernel
theorem dX2_sitsInSun_19 : decode cX2_sitsInSun 19 = .ok (.ifCond .eq 7, 3) := by decide +kernel
theorem dX2_sitsInSun_22 : decode cX2_sitsInSun 22 = .ok (.iconst 1, 1) := by decide +kernel
theorem dX2_sitsInSun_23 : decode cX2_sitsInSun 23 = .ok (.goto 4, 3) := by decide +kernel
theorem dX2_sitsInSun_26 : decode cX2_sitsInSun 26 = .ok (.iconst 0, 1) := by decide +kernel
theorem dX2_sitsInSun_27 : decode cX2_sitsInSun 27 = .ok (.ireturn, 1) := by decide +kernel
theorem dX2_placeOf_0 : decode cX2_placeOf 0 = .ok (.iconst 0, 1) := by decide +kernel
theorem dX2_placeOf_1 : decode cX2_placeOf 1 = .ok (.istore_n 2, 1) := by decide +kernel
theorem dX2_placeOf_2 : decode cX2_placeOf 2 = .ok (.iload_n 2, 1) := by decide +kernel
theorem dX2_placeOf_3 : decode cX2_placeOf 3 = .ok (.aload_n 0, 1) := by decide +kernel
theorem dX2_placeOf_4 : decode cX2_placeOf 4 = .ok (.getfield 41, 3) := by decide +kernel
theorem dX2_placeOf_7 : decode cX2_placeOf 7 = .ok (.if_icmp .ge 21, 3) := by decide +kernel
theorem dX2_placeOf_10 : decode cX2_placeOf 10 = .ok (.aload_n 0, 1) := by decide +kernel
theorem dX2_placeOf_11 : decode cX2_placeOf 11 = .ok (.getfield 44, 3) := by decide +kernel
theorem dX2_placeOf_14 : decode cX2_placeOf 14 = .ok (.iload_n 2, 1) := by decide +kernel
theorem dX2_placeOf_15 : decode cX2_placeOf 15 = .ok (.iaload, 1) := by decide +kernel
theorem dX2_placeOf_16 : decode cX2_placeOf 16 = .ok (.iload_n 1, 1) := by decide +kernel
theorem dX2_placeOf_17 : decode cX2_placeOf 17 = .ok (.if_icmp .ne 5, 3) := by decide +kernel
theorem dX2_placeOf_20 : decode cX2_placeOf 20 = .ok (.iload_n 2, 1) := by decide +kernel
theorem dX2_placeOf_21 : decode cX2_placeOf 21 = .ok (.ireturn, 1) := by decide +kernel
theorem dX2_placeOf_22 : decode cX2_placeOf 22 = .ok (.iinc 2 1, 3) := by decide +kernel
theorem dX2_placeOf_25 : decode cX2_placeOf 25 = .ok (.goto (-23), 3) := by decide +kernel
theorem dX2_placeOf_28 : decode cX2_placeOf 28 = .ok (.iconst (-1), 1) := by decide +kernel
theorem dX2_placeOf_29 : decode cX2_placeOf 29 = .ok (.ireturn, 1) := by decide +kernel
theorem dX2_isAwayForGood_0 : decode cX2_isAwayForGood 0 = .ok (.aload_n 0, 1) := by decide +kernel
theorem dX2_isAwayForGood_1 : decode cX2_isAwayForGood 1 = .ok (.getfield 50, 3) := by decide +kernel
theorem dX2_isAwayForGood_4 : decode cX2_isAwayForGood 4 = .ok (.iload_n 1, 1) := by decide +kernel
theorem dX2_isAwayForGood_5 : decode cX2_isAwayForGood 5 = .ok (.iaload, 1) := by decide +kernel
theorem dX2_isAwayForGood_6 : decode cX2_isAwayForGood 6 = .ok (.bipush (-2), 2) := by decide +kernel
theorem dX2_isAwayForGood_8 : decode cX2_isAwayForGood 8 = .ok (.if_icmp .ne 7, 3) := by decide +kernel
theorem dX2_isAwayForGood_11 : decode cX2_isAwayForGood 11 = .ok (.iconst 1, 1) := by decide +kernel
theorem dX2_isAwayForGood_12 : decode cX2_isAwayForGood 12 = .ok (.goto 4, 3) := by decide +kernel
theorem dX2_isAwayForGood_15 : decode cX2_isAwayForGood 15 = .ok (.iconst 0, 1) := by decide +kernel
theorem dX2_isAwayForGood_16 : decode cX2_isAwayForGood 16 = .ok (.ireturn, 1) := by decide +kernel
theorem dX2_isAtDinner_0 : decode cX2_isAtDinner 0 = .ok (.aload_n 0, 1) := by decide +kernel
theorem dX2_isAtDinner_1 : decode cX2_isAtDinner 1 = .ok (.getfield 50, 3) := by decide +kernel
theorem dX2_isAtDinner_4 : decode cX2_isAtDinner 4 = .ok (.iload_n 1, 1) := by decide +kernel
theorem dX2_isAtDinner_5 : decode cX2_isAtDinner 5 = .ok (.iaload, 1) := by decide +kernel
theorem dX2_isAtDinner_6 : decode cX2_isAtDinner 6 = .ok (.ifCond .lt 7, 3) := by decide +kernel
theorem dX2_isAtDinner_9 : decode cX2_isAtDinner 9 = .ok (.iconst 1, 1) := by decide +kernel
theorem dX2_isAtDinner_10 : decode cX2_isAtDinner 10 = .ok (.goto 4, 3) := by decide +kernel
theorem dX2_isAtDinner_13 : decode cX2_isAtDinner 13 = .ok (.iconst 0, 1) := by decide +kernel
theorem dX2_isAtDinner_14 : decode cX2_isAtDinner 14 = .ok (.ireturn, 1) := by decide +kernel
theorem dX2_sittersAsBits_0 : decode cX2_sittersAsBits 0 = .ok (.iconst 0, 1) := by decide +kernel
theorem dX2_sittersAsBits_1 : decode cX2_sittersAsBits 1 = .ok (.istore_n 1, 1) := by decide +kernel
theorem dX2_sittersAsBits_2 : decode cX2_sittersAsBits 2 = .ok (.iconst 0, 1) := by decide +kernel
theorem dX2_sittersAsBits_3 : decode cX2_sittersAsBits 3 = .ok (.istore_n 2, 1) := by decide +kernel
theorem dX2_sittersAsBits_4 : decode cX2_sittersAsBits 4 = .ok (.iload_n 2, 1) := by decide +kernel
theorem dX2_sittersAsBits_5 : decode cX2_sittersAsBits 5 = .ok (.aload_n 0, 1) := by decide +kernel
theorem dX2_sittersAsBits_6 : decode cX2_sittersAsBits 6 = .ok (.getfield 41, 3) := by decide +kernel
theorem dX2_sittersAsBits_9 : decode cX2_sittersAsBits 9 = .ok (.if_icmp .ge 20, 3) := by decide +kernel
theorem dX2_sittersAsBits_12 : decode cX2_sittersAsBits 12 = .ok (.iload_n 1, 1) := by decide +kernel
theorem dX2_sittersAsBits_13 : decode cX2_sittersAsBits 13 = .ok (.iconst 1, 1) := by decide +kernel
theorem dX2_sittersAsBits_14 : decode cX2_sittersAsBits 14 = .ok (.aload_n 0, 1) := by decide +kernel
theorem dX2_sittersAsBits_15 : decode cX2_sittersAsBits 15 = .ok (.getfield 44, 3) := by decide +kernel
theorem dX2_sittersAsBits_18 : decode cX2_sittersAsBits 18 = .ok (.iload_n 2, 1) := by decide +kernel
theorem dX2_sittersAsBits_19 : decode cX2_sittersAsBits 19 = .ok (.iaload, 1) := by decide +kernel
theorem dX2_sittersAsBits_20 : decode cX2_sittersAsBits 20 = .ok (.ishl, 1) := by decide +kernel
theorem dX2_sittersAsBits_21 : decode cX2_sittersAsBits 21 = .ok (.ior, 1) := by decide +kernel
theorem dX2_sittersAsBits_22 : decode cX2_sittersAsBits 22 = .ok (.istore_n 1, 1) := by decide +kernel
theorem dX2_sittersAsBits_23 : decode cX2_sittersAsBits 23 = .ok (.iinc 2 1, 3) := by decide +kernel
theorem dX2_sittersAsBits_26 : decode cX2_sittersAsBits 26 = .ok (.goto (-22), 3) := by decide +kernel
theorem dX2_sittersAsBits_29 : decode cX2_sittersAsBits 29 = .ok (.iload_n 1, 1) := by decide +kernel
theorem dX2_sittersAsBits_30 : decode cX2_sittersAsBits 30 = .ok (.ireturn, 1) := by decide +kernel
theorem dX2_sunnyAsBits_0 : decode cX2_sunnyAsBits 0 = .ok (.iconst 0, 1) := by decide +kernel
theorem dX2_sunnyAsBits_1 : decode cX2_sunnyAsBits 1 = .ok (.istore_n 1, 1) := by decide +kernel
theorem dX2_sunnyAsBits_2 : decode cX2_sunnyAsBits 2 = .ok (.aload_n 0, 1) := by decide +kernel
theorem dX2_sunnyAsBits_3 : decode cX2_sunnyAsBits 3 = .ok (.invokevirtual 76, 3) := by decide +kernel
theorem dX2_sunnyAsBits_6 : decode cX2_sunnyAsBits 6 = .ok (.istore_n 2, 1) := by decide +kernel
theorem dX2_sunnyAsBits_7 : decode cX2_sunnyAsBits 7 = .ok (.iconst 0, 1) := by decide +kernel
theorem dX2_sunnyAsBits_8 : decode cX2_sunnyAsBits 8 = .ok (.istore_n 3, 1) := by decide +kernel
theorem dX2_sunnyAsBits_9 : decode cX2_sunnyAsBits 9 = .ok (.iload_n 3, 1) := by decide +kernel
theorem dX2_sunnyAsBits_10 : decode cX2_sunnyAsBits 10 = .ok (.aload_n 0, 1) := by decide +kernel
theorem dX2_sunnyAsBits_11 : decode cX2_sunnyAsBits 11 = .ok (.getfield 41, 3) := by decide +kernel
theorem dX2_sunnyAsBits_14 : decode cX2_sunnyAsBits 14 = .ok (.if_icmp .ge 33, 3) := by decide +kernel
theorem dX2_sunnyAsBits_17 : decode cX2_sunnyAsBits 17 = .ok (.iload_n 1, 1) := by decide +kernel
theorem dX2_sunnyAsBits_18 : decode cX2_sunnyAsBits 18 = .ok (.aload_n 0, 1) := by decide +kernel
theorem dX2_sunnyAsBits_19 : decode cX2_sunnyAsBits 19 = .ok (.iload_n 3, 1) := by decide +kernel
theorem dX2_sunnyAsBits_20 : decode cX2_sunnyAsBits 20 = .ok (.iload_n 2, 1) := by decide +kernel
theorem dX2_sunnyAsBits_21 : decode cX2_sunnyAsBits 21 = .ok (.invokevirtual 80, 3) := by decide +kernel
theorem dX2_sunnyAsBits_24 : decode cX2_sunnyAsBits 24 = .ok (.ifCond .eq 14, 3) := by decide +kernel
theorem dX2_sunnyAsBits_27 : decode cX2_sunnyAsBits 27 = .ok (.iconst 1, 1) := by decide +kernel
theorem dX2_sunnyAsBits_28 : decode cX2_sunnyAsBits 28 = .ok (.aload_n 0, 1) := by decide +kernel
theorem dX2_sunnyAsBits_29 : decode cX2_sunnyAsBits 29 = .ok (.getfield 44, 3) := by decide +kernel
theorem dX2_sunnyAsBits_32 : decode cX2_sunnyAsBits 32 = .ok (.iload_n 3, 1) := by decide +kernel
theorem dX2_sunnyAsBits_33 : decode cX2_sunnyAsBits 33 = .ok (.iaload, 1) := by decide +kernel
theorem dX2_sunnyAsBits_34 : decode cX2_sunnyAsBits 34 = .ok (.ishl, 1) := by decide +kernel
theorem dX2_sunnyAsBits_35 : decode cX2_sunnyAsBits 35 = .ok (.goto 4, 3) := by decide +kernel
theorem dX2_sunnyAsBits_38 : decode cX2_sunnyAsBits 38 = .ok (.iconst 0, 1) := by decide +kernel
theorem dX2_sunnyAsBits_39 : decode cX2_sunnyAsBits 39 = .ok (.ior, 1) := by decide +kernel
theorem dX2_sunnyAsBits_40 : decode cX2_sunnyAsBits 40 = .ok (.istore_n 1, 1) := by decide +kernel
theorem dX2_sunnyAsBits_41 : decode cX2_sunnyAsBits 41 = .ok (.iinc 3 1, 3) := by decide +kernel
theorem dX2_sunnyAsBits_44 : decode cX2_sunnyAsBits 44 = .ok (.goto (-35), 3) := by decide +kernel
theorem dX2_sunnyAsBits_47 : decode cX2_sunnyAsBits 47 = .ok (.iload_n 1, 1) := by decide +kernel
theorem dX2_sunnyAsBits_48 : decode cX2_sunnyAsBits 48 = .ok (.ireturn, 1) := by decide +kernel
theorem dX2_dueAsBits_0 : decode cX2_dueAsBits 0 = .ok (.iconst 0, 1) := by decide +kernel
theorem dX2_dueAsBits_1 : decode cX2_dueAsBits 1 = .ok (.istore_n 1, 1) := by decide +kernel
theorem dX2_dueAsBits_2 : decode cX2_dueAsBits 2 = .ok (.iconst 0, 1) := by decide +kernel
theorem dX2_dueAsBits_3 : decode cX2_dueAsBits 3 = .ok (.istore_n 2, 1) := by decide +kernel
theorem dX2_dueAsBits_4 : decode cX2_dueAsBits 4 = .ok (.iload_n 2, 1) := by decide +kernel
theorem dX2_dueAsBits_5 : decode cX2_dueAsBits 5 = .ok (.aload_n 0, 1) := by decide +kernel
theorem dX2_dueAsBits_6 : decode cX2_dueAsBits 6 = .ok (.getfield 41, 3) := by decide +kernel
theorem dX2_dueAsBits_9 : decode cX2_dueAsBits 9 = .ok (.if_icmp .ge 37, 3) := by decide +kernel
theorem dX2_dueAsBits_12 : decode cX2_dueAsBits 12 = .ok (.iload_n 1, 1) := by decide +kernel
theorem dX2_dueAsBits_13 : decode cX2_dueAsBits 13 = .ok (.aload_n 0, 1) := by decide +kernel
theorem dX2_dueAsBits_14 : decode cX2_dueAsBits 14 = .ok (.aload_n 0, 1) := by decide +kernel
theorem dX2_dueAsBits_15 : decode cX2_dueAsBits 15 = .ok (.getfield 44, 3) := by decide +kernel
theorem dX2_dueAsBits_18 : decode cX2_dueAsBits 18 = .ok (.iload_n 2, 1) := by decide +kernel
theorem dX2_dueAsBits_19 : decode cX2_dueAsBits 19 = .ok (.iaload, 1) := by decide +kernel
theorem dX2_dueAsBits_20 : decode cX2_dueAsBits 20 = .ok (.invokevirtual 84, 3) := by decide +kernel
theorem dX2_dueAsBits_23 : decode cX2_dueAsBits 23 = .ok (.ifCond .eq 14, 3) := by decide +kernel
theorem dX2_dueAsBits_26 : decode cX2_dueAsBits 26 = .ok (.iconst 1, 1) := by decide +kernel
theorem dX2_dueAsBits_27 : decode cX2_dueAsBits 27 = .ok (.aload_n 0, 1) := by decide +kernel
theorem dX2_dueAsBits_28 : decode cX2_dueAsBits 28 = .ok (.getfield 44, 3) := by decide +kernel
theorem dX2_dueAsBits_31 : decode cX2_dueAsBits 31 = .ok (.iload_n 2, 1) := by decide +kernel
theorem dX2_dueAsBits_32 : decode cX2_dueAsBits 32 = .ok (.iaload, 1) := by decide +kernel
theorem dX2_dueAsBits_33 : decode cX2_dueAsBits 33 = .ok (.ishl, 1) := by decide +kernel
theorem dX2_dueAsBits_34 : decode cX2_dueAsBits 34 = .ok (.goto 4, 3) := by decide +kernel
theorem dX2_dueAsBits_37 : decode cX2_dueAsBits 37 = .ok (.iconst 0, 1) := by decide +kernel
theorem dX2_dueAsBits_38 : decode cX2_dueAsBits 38 = .ok (.ior, 1) := by decide +kernel
theorem dX2_dueAsBits_39 : decode cX2_dueAsBits 39 = .ok (.istore_n 1, 1) := by decide +kernel
theorem dX2_dueAsBits_40 : decode cX2_dueAsBits 40 = .ok (.iinc 2 1, 3) := by decide +kernel
theorem dX2_dueAsBits_43 : decode cX2_dueAsBits 43 = .ok (.goto (-39), 3) := by decide +kernel
theorem dX2_dueAsBits_46 : decode cX2_dueAsBits 46 = .ok (.iload_n 1, 1) := by decide +kernel
theorem dX2_dueAsBits_47 : decode cX2_dueAsBits 47 = .ok (.ireturn, 1) := by decide +kernel
theorem dX2_warmOfAll_0 : decode cX2_warmOfAll 0 = .ok (.iconst 0, 1) := by decide +kernel
theorem dX2_warmOfAll_1 : decode cX2_warmOfAll 1 = .ok (.istore_n 1, 1) := by decide +kernel
theorem dX2_warmOfAll_2 : decode cX2_warmOfAll 2 = .ok (.iconst 0, 1) := by decide +kernel
theorem dX2_warmOfAll_3 : decode cX2_warmOfAll 3 = .ok (.istore_n 2, 1) := by decide +kernel
theorem dX2_warmOfAll_4 : decode cX2_warmOfAll 4 = .ok (.iload_n 2, 1) := by decide +kernel
theorem dX2_warmOfAll_5 : decode cX2_warmOfAll 5 = .ok (.aload_n 0, 1) := by decide +kernel
theorem dX2_warmOfAll_6 : decode cX2_warmOfAll 6 = .ok (.getfield 18, 3) := by decide +kernel
theorem dX2_warmOfAll_9 : decode cX2_warmOfAll 9 = .ok (.if_icmp .ge 18, 3) := by decide +kernel
theorem dX2_warmOfAll_12 : decode cX2_warmOfAll 12 = .ok (.iload_n 1, 1) := by decide +kernel
theorem dX2_warmOfAll_13 : decode cX2_warmOfAll 13 = .ok (.aload_n 0, 1) := by decide +kernel
theorem dX2_warmOfAll_14 : decode cX2_warmOfAll 14 = .ok (.getfield 47, 3) := by decide +kernel
theorem dX2_warmOfAll_17 : decode cX2_warmOfAll 17 = .ok (.iload_n 2, 1) := by decide +kernel
theorem dX2_warmOfAll_18 : decode cX2_warmOfAll 18 = .ok (.iaload, 1) := by decide +kernel
theorem dX2_warmOfAll_19 : decode cX2_warmOfAll 19 = .ok (.iadd, 1) := by decide +kernel
theorem dX2_warmOfAll_20 : decode cX2_warmOfAll 20 = .ok (.istore_n 1, 1) := by decide +kernel
theorem dX2_warmOfAll_21 : decode cX2_warmOfAll 21 = .ok (.iinc 2 1, 3) := by decide +kernel
theorem dX2_warmOfAll_24 : decode cX2_warmOfAll 24 = .ok (.goto (-20), 3) := by decide +kernel
theorem dX2_warmOfAll_27 : decode cX2_warmOfAll 27 = .ok (.iload_n 1, 1) := by decide +kernel
theorem dX2_warmOfAll_28 : decode cX2_warmOfAll 28 = .ok (.ireturn, 1) := by decide +kernel
theorem dX2_passHours_0 : decode cX2_passHours 0 = .ok (.iconst 0, 1) := by decide +kernel
theorem dX2_passHours_1 : decode cX2_passHours 1 = .ok (.istore_n 2, 1) := by decide +kernel
theorem dX2_passHours_2 : decode cX2_passHours 2 = .ok (.iconst 0, 1) := by decide +kernel
theorem dX2_passHours_3 : decode cX2_passHours 3 = .ok (.istore_n 3, 1) := by decide +kernel
theorem dX2_passHours_4 : decode cX2_passHours 4 = .ok (.iload_n 3, 1) := by decide +kernel
theorem dX2_passHours_5 : decode cX2_passHours 5 = .ok (.iload_n 1, 1) := by decide +kernel
theorem dX2_passHours_6 : decode cX2_passHours 6 = .ok (.if_icmp .ge 17, 3) := by decide +kernel
theorem dX2_passHours_9 : decode cX2_passHours 9 = .ok (.iload_n 2, 1) := by decide +kernel
theorem dX2_passHours_10 : decode cX2_passHours 10 = .ok (.aload_n 0, 1) := by decide +kernel
theorem dX2_passHours_11 : decode cX2_passHours 11 = .ok (.iconst 0, 1) := by decide +kernel
theorem dX2_passHours_12 : decode cX2_passHours 12 = .ok (.invokevirtual 88, 3) := by decide +kernel
theorem dX2_passHours_15 : decode cX2_passHours 15 = .ok (.iadd, 1) := by decide +kernel
theorem dX2_passHours_16 : decode cX2_passHours 16 = .ok (.istore_n 2, 1) := by decide +kernel
theorem dX2_passHours_17 : decode cX2_passHours 17 = .ok (.iinc 3 1, 3) := by decide +kernel
theorem dX2_passHours_20 : decode cX2_passHours 20 = .ok (.goto (-16), 3) := by decide +kernel
theorem dX2_passHours_23 : decode cX2_passHours 23 = .ok (.iload_n 2, 1) := by decide +kernel
theorem dX2_passHours_24 : decode cX2_passHours 24 = .ok (.ireturn, 1) := by decide +kernel
theorem dX2_passHour_0 : decode cX2_passHour 0 = .ok (.aload_n 0, 1) := by decide +kernel
theorem dX2_passHour_1 : decode cX2_passHour 1 = .ok (.invokevirtual 76, 3) := by decide +kernel
theorem dX2_passHour_4 : decode cX2_passHour 4 = .ok (.istore_n 2, 1) := by decide +kernel
theorem dX2_passHour_5 : decode cX2_passHour 5 = .ok (.aload_n 0, 1) := by decide +kernel
theorem dX2_passHour_6 : decode cX2_passHour 6 = .ok (.invokevirtual 91, 3) := by decide +kernel
theorem dX2_passHour_9 : decode cX2_passHour 9 = .ok (.aload_n 0, 1) := by decide +kernel
theorem dX2_passHour_10 : decode cX2_passHour 10 = .ok (.iload_n 1, 1) := by decide +kernel
theorem dX2_passHour_11 : decode cX2_passHour 11 = .ok (.iload_n 2, 1) := by decide +kernel
theorem dX2_passHour_12 : decode cX2_passHour 12 = .ok (.invokevirtual 94, 3) := by decide +kernel
theorem dX2_passHour_15 : decode cX2_passHour 15 = .ok (.istore_n 3, 1) := by decide +kernel
theorem dX2_passHour_16 : decode cX2_passHour 16 = .ok (.iconst 0, 1) := by decide +kernel
theorem dX2_passHour_17 : decode cX2_passHour 17 = .ok (.istore 4, 2) := by decide +kernel
theorem dX2_passHour_19 : decode cX2_passHour 19 = .ok (.iload 4, 2) := by decide +kernel
theorem dX2_passHour_21 : decode cX2_passHour 21 = .ok (.aload_n 0, 1) := by decide +kernel
theorem dX2_passHour_22 : decode cX2_passHour 22 = .ok (.getfield 41, 3) := by decide +kernel
theorem dX2_passHour_25 : decode cX2_passHour 25 = .ok (.if_icmp .ge 39, 3) := by decide +kernel
theorem dX2_passHour_28 : decode cX2_passHour 28 = .ok (.aload_n 0, 1) := by decide +kernel
theorem dX2_passHour_29 : decode cX2_passHour 29 = .ok (.getfield 47, 3) := by decide +kernel
theorem dX2_passHour_32 : decode cX2_passHour 32 = .ok (.aload_n 0, 1) := by decide +kernel
theorem dX2_passHour_33 : decode cX2_passHour 33 = .ok (.getfield 44, 3) := by decide +kernel
theorem dX2_passHour_36 : decode cX2_passHour 36 = .ok (.iload 4, 2) := by decide +kernel
theorem dX2_passHour_38 : decode cX2_passHour 38 = .ok (.iaload, 1) := by decide +kernel
theorem dX2_passHour_39 : decode cX2_passHour 39 = .ok (.dup2, 1) := by decide +kernel
theorem dX2_passHour_40 : decode cX2_passHour 40 = .ok (.iaload, 1) := by decide +kernel
theorem dX2_passHour_41 : decode cX2_passHour 41 = .ok (.aload_n 0, 1) := by decide +kernel
theorem dX2_passHour_42 : decode cX2_passHour 42 = .ok (.iload 4, 2) := by decide +kernel
theorem dX2_passHour_44 : decode cX2_passHour 44 = .ok (.iload_n 2, 1) := by decide +kernel
theorem dX2_passHour_45 : decode cX2_passHour 45 = .ok (.invokevirtual 80, 3) := by decide +kernel
theorem dX2_passHour_48 : decode cX2_passHour 48 = .ok (.ifCond .eq 7, 3) := by decide +kernel
theorem dX2_passHour_51 : decode cX2_passHour 51 = .ok (.iconst 1, 1) := by decide +kernel
theorem dX2_passHour_52 : decode cX2_passHour 52 = .ok (.goto 4, 3) := by decide +kernel
theorem dX2_passHour_55 : decode cX2_passHour 55 = .ok (.iconst 0, 1) := by decide +kernel
theorem dX2_passHour_56 : decode cX2_passHour 56 = .ok (.iadd, 1) := by decide +kernel
theorem dX2_passHour_57 : decode cX2_passHour 57 = .ok (.iastore, 1) := by decide +kernel
theorem dX2_passHour_58 : decode cX2_passHour 58 = .ok (.iinc 4 1, 3) := by decide +kernel
theorem dX2_passHour_61 : decode cX2_passHour 61 = .ok (.goto (-42), 3) := by decide +kernel
theorem dX2_passHour_64 : decode cX2_passHour 64 = .ok (.aload_n 0, 1) := by decide +kernel
theorem dX2_passHour_65 : decode cX2_passHour 65 = .ok (.dup, 1) := by decide +kernel
theorem dX2_passHour_66 : decode cX2_passHour 66 = .ok (.getfield 31, 3) := by decide +kernel
theorem dX2_passHour_69 : decode cX2_passHour 69 = .ok (.iconst 1, 1) := by decide +kernel
theorem dX2_passHour_70 : decode cX2_passHour 70 = .ok (.iadd, 1) := by decide +kernel
theorem dX2_passHour_71 : decode cX2_passHour 71 = .ok (.putfield 31, 3) := by decide +kernel
theorem dX2_passHour_74 : decode cX2_passHour 74 = .ok (.iload_n 3, 1) := by decide +kernel
theorem dX2_passHour_75 : decode cX2_passHour 75 = .ok (.ireturn, 1) := by decide +kernel
theorem dX2_seatWhoIsBack_0 : decode cX2_seatWhoIsBack 0 = .ok (.iconst 0, 1) := by decide +kernel
theorem dX2_seatWhoIsBack_1 : decode cX2_seatWhoIsBack 1 = .ok (.istore_n 1, 1) := by decide +kernel
theorem dX2_seatWhoIsBack_2 : decode cX2_seatWhoIsBack 2 = .ok (.iload_n 1, 1) := by decide +kernel
theorem dX2_seatWhoIsBack_3 : decode cX2_seatWhoIsBack 3 = .ok (.aload_n 0, 1) := by decide +kernel
theorem dX2_seatWhoIsBack_4 : decode cX2_seatWhoIsBack 4 = .ok (.getfield 18, 3) := by decide +kernel
theorem dX2_seatWhoIsBack_7 : decode cX2_seatWhoIsBack 7 = .ok (.if_icmp .ge 58, 3) := by decide +kernel
theorem dX2_seatWhoIsBack_10 : decode cX2_seatWhoIsBack 10 = .ok (.aload_n 0, 1) := by decide +kernel
theorem dX2_seatWhoIsBack_11 : decode cX2_seatWhoIsBack 11 = .ok (.iload_n 1, 1) := by decide +kernel
theorem dX2_seatWhoIsBack_12 : decode cX2_seatWhoIsBack 12 = .ok (.invokevirtual 97, 3) := by decide +kernel
theorem dX2_seatWhoIsBack_15 : decode cX2_seatWhoIsBack 15 = .ok (.ifCond .eq 44, 3) := by decide +kernel
theorem dX2_seatWhoIsBack_18 : decode cX2_seatWhoIsBack 18 = .ok (.aload_n 0, 1) := by decide +kernel
theorem dX2_seatWhoIsBack_19 : decode cX2_seatWhoIsBack 19 = .ok (.getfield 50, 3) := by decide +kernel
theorem dX2_seatWhoIsBack_22 : decode cX2_seatWhoIsBack 22 = .ok (.iload_n 1, 1) := by decide +kernel
theorem dX2_seatWhoIsBack_23 : decode cX2_seatWhoIsBack 23 = .ok (.iaload, 1) := by decide +kernel
theorem dX2_seatWhoIsBack_24 : decode cX2_seatWhoIsBack 24 = .ok (.aload_n 0, 1) := by decide +kernel
theorem dX2_seatWhoIsBack_25 : decode cX2_seatWhoIsBack 25 = .ok (.getfield 31, 3) := by decide +kernel
theorem dX2_seatWhoIsBack_28 : decode cX2_seatWhoIsBack 28 = .ok (.if_icmp .gt 31, 3) := by decide +kernel
theorem dX2_seatWhoIsBack_31 : decode cX2_seatWhoIsBack 31 = .ok (.aload_n 0, 1) := by decide +kernel
theorem dX2_seatWhoIsBack_32 : decode cX2_seatWhoIsBack 32 = .ok (.iload_n 1, 1) := by decide +kernel
theorem dX2_seatWhoIsBack_33 : decode cX2_seatWhoIsBack 33 = .ok (.aload_n 0, 1) := by decide +kernel
theorem dX2_seatWhoIsBack_34 : decode cX2_seatWhoIsBack 34 = .ok (.getfield 21, 3) := by decide +kernel
theorem dX2_seatWhoIsBack_37 : decode cX2_seatWhoIsBack 37 = .ok (.iload_n 1, 1) := by decide +kernel
theorem dX2_seatWhoIsBack_38 : decode cX2_seatWhoIsBack 38 = .ok (.iaload, 1) := by decide +kernel
theorem dX2_seatWhoIsBack_39 : decode cX2_seatWhoIsBack 39 = .ok (.iconst 3, 1) := by decide +kernel
theorem dX2_seatWhoIsBack_40 : decode cX2_seatWhoIsBack 40 = .ok (.if_icmp .ne 12, 3) := by decide +kernel
theorem dX2_seatWhoIsBack_43 : decode cX2_seatWhoIsBack 43 = .ok (.aload_n 0, 1) := by decide +kernel
theorem dX2_seatWhoIsBack_44 : decode cX2_seatWhoIsBack 44 = .ok (.getfield 41, 3) := by decide +kernel
theorem dX2_seatWhoIsBack_47 : decode cX2_seatWhoIsBack 47 = .ok (.iconst 2, 1) := by decide +kernel
theorem dX2_seatWhoIsBack_48 : decode cX2_seatWhoIsBack 48 = .ok (.idiv, 1) := by decide +kernel
theorem dX2_seatWhoIsBack_49 : decode cX2_seatWhoIsBack 49 = .ok (.goto 7, 3) := by decide +kernel
theorem dX2_seatWhoIsBack_52 : decode cX2_seatWhoIsBack 52 = .ok (.aload_n 0, 1) := by decide +kernel
theorem dX2_seatWhoIsBack_53 : decode cX2_seatWhoIsBack 53 = .ok (.getfield 41, 3) := by decide +kernel
theorem dX2_seatWhoIsBack_56 : decode cX2_seatWhoIsBack 56 = .ok (.invokevirtual 53, 3) := by decide +kernel
theorem dX2_seatWhoIsBack_59 : decode cX2_seatWhoIsBack 59 = .ok (.iinc 1 1, 3) := by decide +kernel
theorem dX2_seatWhoIsBack_62 : decode cX2_seatWhoIsBack 62 = .ok (.goto (-60), 3) := by decide +kernel
theorem dX2_seatWhoIsBack_65 : decode cX2_seatWhoIsBack 65 = .ok (.return_, 1) := by decide +kernel
theorem dX2_callToDinner_0 : decode cX2_callToDinner 0 = .ok (.iconst 0, 1) := by decide +kernel
theorem dX2_callToDinner_1 : decode cX2_callToDinner 1 = .ok (.istore_n 3, 1) := by decide +kernel
theorem dX2_callToDinner_2 : decode cX2_callToDinner 2 = .ok (.iconst 0, 1) := by decide +kernel
theorem dX2_callToDinner_3 : decode cX2_callToDinner 3 = .ok (.istore 4, 2) := by decide +kernel
theorem dX2_callToDinner_5 : decode cX2_callToDinner 5 = .ok (.aload_n 0, 1) := by decide +kernel
theorem dX2_callToDinner_6 : decode cX2_callToDinner 6 = .ok (.getfield 41, 3) := by decide +kernel
theorem dX2_callToDinner_9 : decode cX2_callToDinner 9 = .ok (.istore 5, 2) := by decide +kernel
theorem dX2_callToDinner_11 : decode cX2_callToDinner 11 = .ok (.iconst 0, 1) := by decide +kernel
theorem dX2_callToDinner_12 : decode cX2_callToDinner 12 = .ok (.istore 6, 2) := by decide +kernel
theorem dX2_callToDinner_14 : decode cX2_callToDinner 14 = .ok (.iload 6, 2) := by decide +kernel
theorem dX2_callToDinner_16 : decode cX2_callToDinner 16 = .ok (.iload 5, 2) := by decide +kernel
theorem dX2_callToDinner_18 : decode cX2_callToDinner 18 = .ok (.if_icmp .ge 102, 3) := by decide +kernel
theorem dX2_callToDinner_21 : decode cX2_callToDinner 21 = .ok (.aload_n 0, 1) := by decide +kernel
theorem dX2_callToDinner_22 : decode cX2_callToDinner 22 = .ok (.getfield 44, 3) := by decide +kernel
theorem dX2_callToDinner_25 : decode cX2_callToDinner 25 = .ok (.iload 4, 2) := by decide +kernel
theorem dX2_callToDinner_27 : decode cX2_callToDinner 27 = .ok (.iaload, 1) := by decide +kernel
theorem dX2_callToDinner_28 : decode cX2_callToDinner 28 = .ok (.istore 7, 2) := by decide +kernel
theorem dX2_callToDinner_30 : decode cX2_callToDinner 30 = .ok (.aload_n 0, 1) := by decide +kernel
theorem dX2_callToDinner_31 : decode cX2_callToDinner 31 = .ok (.iload 7, 2) := by decide +kernel
theorem dX2_callToDinner_33 : decode cX2_callToDinner 33 = .ok (.invokevirtual 84, 3) := by decide +kernel
theorem dX2_callToDinner_36 : decode cX2_callToDinner 36 = .ok (.ifCond .eq 16, 3) := by decide +kernel
theorem dX2_callToDinner_39 : decode cX2_callToDinner 39 = .ok (.iload_n 1, 1) := by decide +kernel
theorem dX2_callToDinner_40 : decode cX2_callToDinner 40 = .ok (.iconst 1, 1) := by decide +kernel
theorem dX2_callToDinner_41 : decode cX2_callToDinner 41 = .ok (.iload 7, 2) := by decide +kernel
theorem dX2_callToDinner_43 : decode cX2_callToDinner 43 = .ok (.ishl, 1) := by decide +kernel
theorem dX2_callToDinner_44 : decode cX2_callToDinner 44 = .ok (.iand, 1) := by decide +kernel
theorem dX2_callToDinner_45 : decode cX2_callToDinner 45 = .ok (.ifCond .ne 7, 3) := by decide +kernel
theorem dX2_callToDinner_48 : decode cX2_callToDinner 48 = .ok (.iconst 1, 1) := by decide +kernel
theorem dX2_callToDinner_49 : decode cX2_callToDinner 49 = .ok (.goto 4, 3) := by decide +kernel
theorem dX2_callToDinner_52 : decode cX2_callToDinner 52 = .ok (.iconst 0, 1) := by decide +kernel
theorem dX2_callToDinner_53 : decode cX2_callToDinner 53 = .ok (.istore 8, 2) := by decide +kernel
theorem dX2_callToDinner_55 : decode cX2_callToDinner 55 = .ok (.iload 8, 2) := by decide +kernel
theorem dX2_callToDinner_57 : decode cX2_callToDinner 57 = .ok (.ifCond .eq 54, 3) := by decide +kernel
theorem dX2_callToDinner_60 : decode cX2_callToDinner 60 = .ok (.aload_n 0, 1) := by decide +kernel
theorem dX2_callToDinner_61 : decode cX2_callToDinner 61 = .ok (.getfield 21, 3) := by decide +kernel
theorem dX2_callToDinner_64 : decode cX2_callToDinner 64 = .ok (.iload 7, 2) := by decide +kernel
theorem dX2_callToDinner_66 : decode cX2_callToDinner 66 = .ok (.iaload, 1) := by decide +kernel
theorem dX2_callToDinner_67 : decode cX2_callToDinner 67 = .ok (.aload_n 0, 1) := by decide +kernel
theorem dX2_callToDinner_68 : decode cX2_callToDinner 68 = .ok (.iload 4, 2) := by decide +kernel
theorem dX2_callToDinner_70 : decode cX2_callToDinner 70 = .ok (.iload_n 2, 1) := by decide +kernel
theorem dX2_callToDinner_71 : decode cX2_callToDinner 71 = .ok (.invokevirtual 80, 3) := by decide +kernel
theorem dX2_callToDinner_74 : decode cX2_callToDinner 74 = .ok (.invokestatic 102, 3) := by decide +kernel
theorem dX2_callToDinner_77 : decode cX2_callToDinner 77 = .ok (.ifCond .eq 34, 3) := by decide +kernel
theorem dX2_callToDinner_80 : decode cX2_callToDinner 80 = .ok (.aload_n 0, 1) := by decide +kernel
theorem dX2_callToDinner_81 : decode cX2_callToDinner 81 = .ok (.iload 4, 2) := by decide +kernel
theorem dX2_callToDinner_83 : decode cX2_callToDinner 83 = .ok (.invokevirtual 106, 3) := by decide +kernel
theorem dX2_callToDinner_86 : decode cX2_callToDinner 86 = .ok (.aload_n 0, 1) := by decide +kernel
theorem dX2_callToDinner_87 : decode cX2_callToDinner 87 = .ok (.getfield 50, 3) := by decide +kernel
theorem dX2_callToDinner_90 : decode cX2_callToDinner 90 = .ok (.iload 7, 2) := by decide +kernel
theorem dX2_callToDinner_92 : decode cX2_callToDinner 92 = .ok (.aload_n 0, 1) := by decide +kernel
theorem dX2_callToDinner_93 : decode cX2_callToDinner 93 = .ok (.getfield 31, 3) := by decide +kernel
theorem dX2_callToDinner_96 : decode cX2_callToDinner 96 = .ok (.aload_n 0, 1) := by decide +kernel
theorem dX2_callToDinner_97 : decode cX2_callToDinner 97 = .ok (.getfield 28, 3) := by decide +kernel
theorem dX2_callToDinner_100 : decode cX2_callToDinner 100 = .ok (.iload 7, 2) := by decide +kernel
theorem dX2_callToDinner_102 : decode cX2_callToDinner 102 = .ok (.iaload, 1) := by decide +kernel
theorem dX2_callToDinner_103 : decode cX2_callToDinner 103 = .ok (.iadd, 1) := by decide +kernel
theorem dX2_callToDinner_104 : decode cX2_callToDinner 104 = .ok (.iastore, 1) := by decide +kernel
theorem dX2_callToDinner_105 : decode cX2_callToDinner 105 = .ok (.iinc 3 1, 3) := by decide +kernel
theorem dX2_callToDinner_108 : decode cX2_callToDinner 108 = .ok (.goto 6, 3) := by decide +kernel
theorem dX2_callToDinner_111 : decode cX2_callToDinner 111 = .ok (.iinc 4 1, 3) := by decide +kernel
theorem dX2_callToDinner_114 : decode cX2_callToDinner 114 = .ok (.iinc 6 1, 3) := by decide +kernel
theorem dX2_callToDinner_117 : decode cX2_callToDinner 117 = .ok (.goto (-103), 3) := by decide +kernel
theorem dX2_callToDinner_120 : decode cX2_callToDinner 120 = .ok (.iload_n 3, 1) := by decide +kernel
theorem dX2_callToDinner_121 : decode cX2_callToDinner 121 = .ok (.ireturn, 1) := by decide +kernel
theorem dX2_isDue_0 : decode cX2_isDue 0 = .ok (.aload_n 0, 1) := by decide +kernel
theorem dX2_isDue_1 : decode cX2_isDue 1 = .ok (.getfield 25, 3) := by decide +kernel
theorem dX2_isDue_4 : decode cX2_isDue 4 = .ok (.iload_n 1, 1) := by decide +kernel
theorem dX2_isDue_5 : decode cX2_isDue 5 = .ok (.iaload, 1) := by decide +kernel
theorem dX2_isDue_6 : decode cX2_isDue 6 = .ok (.aload_n 0, 1) := by decide +kernel
theorem dX2_isDue_7 : decode cX2_isDue 7 = .ok (.getfield 31, 3) := by decide +kernel
theorem dX2_isDue_10 : decode cX2_isDue 10 = .ok (.bipush 24, 2) := by decide +kernel
theorem dX2_isDue_12 : decode cX2_isDue 12 = .ok (.irem, 1) := by decide +kernel
theorem dX2_isDue_13 : decode cX2_isDue 13 = .ok (.if_icmp .ne 7, 3) := by decide +kernel
theorem dX2_isDue_16 : decode cX2_isDue 16 = .ok (.iconst 1, 1) := by decide +kernel
theorem dX2_isDue_17 : decode cX2_isDue 17 = .ok (.goto 4, 3) := by decide +kernel
theorem dX2_isDue_20 : decode cX2_isDue 20 = .ok (.iconst 0, 1) := by decide +kernel
theorem dX2_isDue_21 : decode cX2_isDue 21 = .ok (.ireturn, 1) := by decide +kernel
theorem dX2_goesWhenCalled_0 : decode cX2_goesWhenCalled 0 = .ok (.iload_n 0, 1) := by decide +kernel
theorem dX2_goesWhenCalled_1 : decode cX2_goesWhenCalled 1 = .ok (.tableswitch 49 1 5 #[35, 37, 35, 49, 47], 35) := by decide +kernel
theorem dX2_goesWhenCalled_36 : decode cX2_goesWhenCalled 36 = .ok (.iconst 1, 1) := by decide +kernel
theorem dX2_goesWhenCalled_37 : decode cX2_goesWhenCalled 37 = .ok (.ireturn, 1) := by decide +kernel
theorem dX2_goesWhenCalled_38 : decode cX2_goesWhenCalled 38 = .ok (.iload_n 1, 1) := by decide +kernel
theorem dX2_goesWhenCalled_39 : decode cX2_goesWhenCalled 39 = .ok (.ifCond .ne 7, 3) := by decide +kernel
theorem dX2_goesWhenCalled_42 : decode cX2_goesWhenCalled 42 = .ok (.iconst 1, 1) := by decide +kernel
theorem dX2_goesWhenCalled_43 : decode cX2_goesWhenCalled 43 = .ok (.goto 4, 3) := by decide +kernel
theorem dX2_goesWhenCalled_46 : decode cX2_goesWhenCalled 46 = .ok (.iconst 0, 1) := by decide +kernel
theorem dX2_goesWhenCalled_47 : decode cX2_goesWhenCalled 47 = .ok (.ireturn, 1) := by decide +kernel
theorem dX2_goesWhenCalled_48 : decode cX2_goesWhenCalled 48 = .ok (.iload_n 1, 1) := by decide +kernel
theorem dX2_goesWhenCalled_49 : decode cX2_goesWhenCalled 49 = .ok (.ireturn, 1) := by decide +kernel
theorem dX2_goesWhenCalled_50 : decode cX2_goesWhenCalled 50 = .ok (.iconst 0, 1) := by decide +kernel
theorem dX2_goesWhenCalled_51 : decode cX2_goesWhenCalled 51 = .ok (.ireturn, 1) := by decide +kernel
theorem dX2_seat_0 : decode cX2_seat 0 = .ok (.aload_n 0, 1) := by decide +kernel
theorem dX2_seat_1 : decode cX2_seat 1 = .ok (.getfield 41, 3) := by decide +kernel
theorem dX2_seat_4 : decode cX2_seat 4 = .ok (.bipush 7, 2) := by decide +kernel
theorem dX2_seat_6 : decode cX2_seat 6 = .ok (.if_icmp .ge 15, 3) := by decide +kernel
theorem dX2_seat_9 : decode cX2_seat 9 = .ok (.iload_n 2, 1) := by decide +kernel
theorem dX2_seat_10 : decode cX2_seat 10 = .ok (.iconst 0, 1) := by decide +kernel
theorem dX2_seat_11 : decode cX2_seat 11 = .ok (.aload_n 0, 1) := by decide +kernel
theorem dX2_seat_12 : decode cX2_seat 12 = .ok (.getfield 41, 3) := by decide +kernel
theorem dX2_seat_15 : decode cX2_seat 15 = .ok (.invokestatic 110, 3) := by decide +kernel
theorem dX2_seat_18 : decode cX2_seat 18 = .ok (.ifCond .eq 4, 3) := by decide +kernel
theorem dX2_seat_21 : decode cX2_seat 21 = .ok (.return_, 1) := by decide +kernel
theorem dX2_seat_22 : decode cX2_seat 22 = .ok (.aload_n 0, 1) := by decide +kernel
theorem dX2_seat_23 : decode cX2_seat 23 = .ok (.getfield 41, 3) := by decide +kernel
theorem dX2_seat_26 : decode cX2_seat 26 = .ok (.istore_n 3, 1) := by decide +kernel
theorem dX2_seat_27 : decode cX2_seat 27 = .ok (.iload_n 3, 1) := by decide +kernel
theorem dX2_seat_28 : decode cX2_seat 28 = .ok (.iload_n 2, 1) := by decide +kernel
theorem dX2_seat_29 : decode cX2_seat 29 = .ok (.if_icmp .le 23, 3) := by decide +kernel
theorem dX2_seat_32 : decode cX2_seat 32 = .ok (.aload_n 0, 1) := by decide +kernel
theorem dX2_seat_33 : decode cX2_seat 33 = .ok (.getfield 44, 3) := by decide +kernel
theorem dX2_seat_36 : decode cX2_seat 36 = .ok (.iload_n 3, 1) := by decide +kernel
theorem dX2_seat_37 : decode cX2_seat 37 = .ok (.aload_n 0, 1) := by decide +kernel
theorem dX2_seat_38 : decode cX2_seat 38 = .ok (.getfield 44, 3) := by decide +kernel
theorem dX2_seat_41 : decode cX2_seat 41 = .ok (.iload_n 3, 1) := by decide +kernel
theorem dX2_seat_42 : decode cX2_seat 42 = .ok (.iconst 1, 1) := by decide +kernel
theorem dX2_seat_43 : decode cX2_seat 43 = .ok (.isub, 1) := by decide +kernel
theorem dX2_seat_44 : decode cX2_seat 44 = .ok (.iaload, 1) := by decide +kernel
theorem dX2_seat_45 : decode cX2_seat 45 = .ok (.iastore, 1) := by decide +kernel
theorem dX2_seat_46 : decode cX2_seat 46 = .ok (.iinc 3 (-1), 3) := by decide +kernel
theorem dX2_seat_49 : decode cX2_seat 49 = .ok (.goto (-22), 3) := by decide +kernel
theorem dX2_seat_52 : decode cX2_seat 52 = .ok (.aload_n 0, 1) := by decide +kernel
theorem dX2_seat_53 : decode cX2_seat 53 = .ok (.getfield 44, 3) := by decide +kernel
theorem dX2_seat_56 : decode cX2_seat 56 = .ok (.iload_n 2, 1) := by decide +kernel
theorem dX2_seat_57 : decode cX2_seat 57 = .ok (.iload_n 1, 1) := by decide +kernel
theorem dX2_seat_58 : decode cX2_seat 58 = .ok (.iastore, 1) := by decide +kernel
theorem dX2_seat_59 : decode cX2_seat 59 = .ok (.aload_n 0, 1) := by decide +kernel
theorem dX2_seat_60 : decode cX2_seat 60 = .ok (.getfield 50, 3) := by decide +kernel
theorem dX2_seat_63 : decode cX2_seat 63 = .ok (.iload_n 1, 1) := by decide +kernel
theorem dX2_seat_64 : decode cX2_seat 64 = .ok (.iconst (-1), 1) := by decide +kernel
theorem dX2_seat_65 : decode cX2_seat 65 = .ok (.iastore, 1) := by decide +kernel
theorem dX2_seat_66 : decode cX2_seat 66 = .ok (.aload_n 0, 1) := by decide +kernel
theorem dX2_seat_67 : decode cX2_seat 67 = .ok (.dup, 1) := by decide +kernel
theorem dX2_seat_68 : decode cX2_seat 68 = .ok (.getfield 41, 3) := by decide +kernel
theorem dX2_seat_71 : decode cX2_seat 71 = .ok (.iconst 1, 1) := by decide +kernel
theorem dX2_seat_72 : decode cX2_seat 72 = .ok (.iadd, 1) := by decide +kernel
theorem dX2_seat_73 : decode cX2_seat 73 = .ok (.putfield 41, 3) := by decide +kernel
theorem dX2_seat_76 : decode cX2_seat 76 = .ok (.return_, 1) := by decide +kernel
theorem dX2_unseat_0 : decode cX2_unseat 0 = .ok (.aload_n 0, 1) := by decide +kernel
theorem dX2_unseat_1 : decode cX2_unseat 1 = .ok (.dup, 1) := by decide +kernel
theorem dX2_unseat_2 : decode cX2_unseat 2 = .ok (.getfield 41, 3) := by decide +kernel
theorem dX2_unseat_5 : decode cX2_unseat 5 = .ok (.iconst 1, 1) := by decide +kernel
theorem dX2_unseat_6 : decode cX2_unseat 6 = .ok (.isub, 1) := by decide +kernel
theorem dX2_unseat_7 : decode cX2_unseat 7 = .ok (.putfield 41, 3) := by decide +kernel
theorem dX2_unseat_10 : decode cX2_unseat 10 = .ok (.iload_n 1, 1) := by decide +kernel
theorem dX2_unseat_11 : decode cX2_unseat 11 = .ok (.istore_n 2, 1) := by decide +kernel
theorem dX2_unseat_12 : decode cX2_unseat 12 = .ok (.iload_n 2, 1) := by decide +kernel
theorem dX2_unseat_13 : decode cX2_unseat 13 = .ok (.aload_n 0, 1) := by decide +kernel
theorem dX2_unseat_14 : decode cX2_unseat 14 = .ok (.getfield 41, 3) := by decide +kernel
theorem dX2_unseat_17 : decode cX2_unseat 17 = .ok (.if_icmp .ge 23, 3) := by decide +kernel
theorem dX2_unseat_20 : decode cX2_unseat 20 = .ok (.aload_n 0, 1) := by decide +kernel
theorem dX2_unseat_21 : decode cX2_unseat 21 = .ok (.getfield 44, 3) := by decide +kernel
theorem dX2_unseat_24 : decode cX2_unseat 24 = .ok (.iload_n 2, 1) := by decide +kernel
theorem dX2_unseat_25 : decode cX2_unseat 25 = .ok (.aload_n 0, 1) := by decide +kernel
theorem dX2_unseat_26 : decode cX2_unseat 26 = .ok (.getfield 44, 3) := by decide +kernel
theorem dX2_unseat_29 : decode cX2_unseat 29 = .ok (.iload_n 2, 1) := by decide +kernel
theorem dX2_unseat_30 : decode cX2_unseat 30 = .ok (.iconst 1, 1) := by decide +kernel
theorem dX2_unseat_31 : decode cX2_unseat 31 = .ok (.iadd, 1) := by decide +kernel
theorem dX2_unseat_32 : decode cX2_unseat 32 = .ok (.iaload, 1) := by decide +kernel
theorem dX2_unseat_33 : decode cX2_unseat 33 = .ok (.iastore, 1) := by decide +kernel
theorem dX2_unseat_34 : decode cX2_unseat 34 = .ok (.iinc 2 1, 3) := by decide +kernel
theorem dX2_unseat_37 : decode cX2_unseat 37 = .ok (.goto (-25), 3) := by decide +kernel
theorem dX2_unseat_40 : decode cX2_unseat 40 = .ok (.return_, 1) := by decide +kernel
theorem dX2_sendAway_0 : decode cX2_sendAway 0 = .ok (.aload_n 0, 1) := by decide +kernel
theorem dX2_sendAway_1 : decode cX2_sendAway 1 = .ok (.iload_n 1, 1) := by decide +kernel
theorem dX2_sendAway_2 : decode cX2_sendAway 2 = .ok (.invokevirtual 73, 3) := by decide +kernel
theorem dX2_sendAway_5 : decode cX2_sendAway 5 = .ok (.istore_n 2, 1) := by decide +kernel
theorem dX2_sendAway_6 : decode cX2_sendAway 6 = .ok (.iload_n 2, 1) := by decide +kernel
theorem dX2_sendAway_7 : decode cX2_sendAway 7 = .ok (.ifCond .lt 8, 3) := by decide +kernel
theorem dX2_sendAway_10 : decode cX2_sendAway 10 = .ok (.aload_n 0, 1) := by decide +kernel
theorem dX2_sendAway_11 : decode cX2_sendAway 11 = .ok (.iload_n 2, 1) := by decide +kernel
theorem dX2_sendAway_12 : decode cX2_sendAway 12 = .ok (.invokevirtual 106, 3) := by decide +kernel
theorem dX2_sendAway_15 : decode cX2_sendAway 15 = .ok (.aload_n 0, 1) := by decide +kernel
theorem dX2_sendAway_16 : decode cX2_sendAway 16 = .ok (.getfield 50, 3) := by decide +kernel
theorem dX2_sendAway_19 : decode cX2_sendAway 19 = .ok (.iload_n 1, 1) := by decide +kernel
theorem dX2_sendAway_20 : decode cX2_sendAway 20 = .ok (.bipush (-2), 2) := by decide +kernel
theorem dX2_sendAway_22 : decode cX2_sendAway 22 = .ok (.iastore, 1) := by decide +kernel
theorem dX2_sendAway_23 : decode cX2_sendAway 23 = .ok (.return_, 1) := by decide +kernel
theorem dX2_takeSnuff_0 : decode cX2_takeSnuff 0 = .ok (.aload_n 0, 1) := by decide +kernel
theorem dX2_takeSnuff_1 : decode cX2_takeSnuff 1 = .ok (.iload_n 1, 1) := by decide +kernel
theorem dX2_takeSnuff_2 : decode cX2_takeSnuff 2 = .ok (.invokevirtual 73, 3) := by decide +kernel
theorem dX2_takeSnuff_5 : decode cX2_takeSnuff 5 = .ok (.istore_n 2, 1) := by decide +kernel
theorem dX2_takeSnuff_6 : decode cX2_takeSnuff 6 = .ok (.iload_n 2, 1) := by decide +kernel
theorem dX2_takeSnuff_7 : decode cX2_takeSnuff 7 = .ok (.ifCond .gt 4, 3) := by decide +kernel
theorem dX2_takeSnuff_10 : decode cX2_takeSnuff 10 = .ok (.return_, 1) := by decide +kernel
theorem dX2_takeSnuff_11 : decode cX2_takeSnuff 11 = .ok (.aload_n 0, 1) := by decide +kernel
theorem dX2_takeSnuff_12 : decode cX2_takeSnuff 12 = .ok (.getfield 44, 3) := by decide +kernel
theorem dX2_takeSnuff_15 : decode cX2_takeSnuff 15 = .ok (.iload_n 2, 1) := by decide +kernel
theorem dX2_takeSnuff_16 : decode cX2_takeSnuff 16 = .ok (.aload_n 0, 1) := by decide +kernel
theorem dX2_takeSnuff_17 : decode cX2_takeSnuff 17 = .ok (.getfield 44, 3) := by decide +kernel
theorem dX2_takeSnuff_20 : decode cX2_takeSnuff 20 = .ok (.iload_n 2, 1) := by decide +kernel
theorem dX2_takeSnuff_21 : decode cX2_takeSnuff 21 = .ok (.iconst 1, 1) := by decide +kernel
theorem dX2_takeSnuff_22 : decode cX2_takeSnuff 22 = .ok (.isub, 1) := by decide +kernel
theorem dX2_takeSnuff_23 : decode cX2_takeSnuff 23 = .ok (.iaload, 1) := by decide +kernel
theorem dX2_takeSnuff_24 : decode cX2_takeSnuff 24 = .ok (.iastore, 1) := by decide +kernel
theorem dX2_takeSnuff_25 : decode cX2_takeSnuff 25 = .ok (.aload_n 0, 1) := by decide +kernel
theorem dX2_takeSnuff_26 : decode cX2_takeSnuff 26 = .ok (.getfield 44, 3) := by decide +kernel
theorem dX2_takeSnuff_29 : decode cX2_takeSnuff 29 = .ok (.iload_n 2, 1) := by decide +kernel
theorem dX2_takeSnuff_30 : decode cX2_takeSnuff 30 = .ok (.iconst 1, 1) := by decide +kernel
theorem dX2_takeSnuff_31 : decode cX2_takeSnuff 31 = .ok (.isub, 1) := by decide +kernel
theorem dX2_takeSnuff_32 : decode cX2_takeSnuff 32 = .ok (.iload_n 1, 1) := by decide +kernel
theorem dX2_takeSnuff_33 : decode cX2_takeSnuff 33 = .ok (.iastore, 1) := by decide +kernel
theorem dX2_takeSnuff_34 : decode cX2_takeSnuff 34 = .ok (.aload_n 0, 1) := by decide +kernel
theorem dX2_takeSnuff_35 : decode cX2_takeSnuff 35 = .ok (.dup, 1) := by decide +kernel
theorem dX2_takeSnuff_36 : decode cX2_takeSnuff 36 = .ok (.getfield 34, 3) := by decide +kernel
theorem dX2_takeSnuff_39 : decode cX2_takeSnuff 39 = .ok (.iconst 1, 1) := by decide +kernel
theorem dX2_takeSnuff_40 : decode cX2_takeSnuff 40 = .ok (.iadd, 1) := by decide +kernel
theorem dX2_takeSnuff_41 : decode cX2_takeSnuff 41 = .ok (.putfield 34, 3) := by decide +kernel
theorem dX2_takeSnuff_44 : decode cX2_takeSnuff 44 = .ok (.return_, 1) := by decide +kernel
theorem dX3_nearest_0 : decode cX3_nearest 0 = .ok (.iload_n 0, 1) := by decide +kernel
theorem dX3_nearest_1 : decode cX3_nearest 1 = .ok (.iconst 0, 1) := by decide +kernel
theorem dX3_nearest_2 : decode cX3_nearest 2 = .ok (.iconst 5, 1) := by decide +kernel
theorem dX3_nearest_3 : decode cX3_nearest 3 = .ok (.invokestatic 9, 3) := by decide +kernel
theorem dX3_nearest_6 : decode cX3_nearest 6 = .ok (.ifCond .eq 7, 3) := by decide +kernel
theorem dX3_nearest_9 : decode cX3_nearest 9 = .ok (.iconst 0, 1) := by decide +kernel
theorem dX3_nearest_10 : decode cX3_nearest 10 = .ok (.goto 8, 3) := by decide +kernel
theorem dX3_nearest_13 : decode cX3_nearest 13 = .ok (.getstatic 15, 3) := by decide +kernel
theorem dX3_nearest_16 : decode cX3_nearest 16 = .ok (.iload_n 0, 1) := by decide +kernel
theorem dX3_nearest_17 : decode cX3_nearest 17 = .ok (.iaload, 1) := by decide +kernel
theorem dX3_nearest_18 : decode cX3_nearest 18 = .ok (.ireturn, 1) := by decide +kernel
theorem dX3_isOne_0 : decode cX3_isOne 0 = .ok (.iload_n 0, 1) := by decide +kernel
theorem dX3_isOne_1 : decode cX3_isOne 1 = .ok (.istore_n 2, 1) := by decide +kernel
theorem dX3_isOne_2 : decode cX3_isOne 2 = .ok (.iconst 0, 1) := by decide +kernel
theorem dX3_isOne_3 : decode cX3_isOne 3 = .ok (.istore_n 3, 1) := by decide +kernel
theorem dX3_isOne_4 : decode cX3_isOne 4 = .ok (.iload_n 3, 1) := by decide +kernel
theorem dX3_isOne_5 : decode cX3_isOne 5 = .ok (.bipush 6, 2) := by decide +kernel
theorem dX3_isOne_7 : decode cX3_isOne 7 = .ok (.if_icmp .ge 19, 3) := by decide +kernel
theorem dX3_isOne_10 : decode cX3_isOne 10 = .ok (.iload_n 2, 1) := by decide +kernel
theorem dX3_isOne_11 : decode cX3_isOne 11 = .ok (.iload_n 1, 1) := by decide +kernel
theorem dX3_isOne_12 : decode cX3_isOne 12 = .ok (.if_icmp .eq 14, 3) := by decide +kernel
theorem dX3_isOne_15 : decode cX3_isOne 15 = .ok (.iload_n 2, 1) := by decide +kernel
theorem dX3_isOne_16 : decode cX3_isOne 16 = .ok (.invokestatic 19, 3) := by decide +kernel
theorem dX3_isOne_19 : decode cX3_isOne 19 = .ok (.istore_n 2, 1) := by decide +kernel
theorem dX3_isOne_20 : decode cX3_isOne 20 = .ok (.iinc 3 1, 3) := by decide +kernel
theorem dX3_isOne_23 : decode cX3_isOne 23 = .ok (.goto (-19), 3) := by decide +kernel
theorem dX3_isOne_26 : decode cX3_isOne 26 = .ok (.iload_n 2, 1) := by decide +kernel
theorem dX3_isOne_27 : decode cX3_isOne 27 = .ok (.iload_n 1, 1) := by decide +kernel
theorem dX3_isOne_28 : decode cX3_isOne 28 = .ok (.if_icmp .ne 7, 3) := by decide +kernel
theorem dX3_isOne_31 : decode cX3_isOne 31 = .ok (.iconst 1, 1) := by decide +kernel
theorem dX3_isOne_32 : decode cX3_isOne 32 = .ok (.goto 4, 3) := by decide +kernel
theorem dX3_isOne_35 : decode cX3_isOne 35 = .ok (.iconst 0, 1) := by decide +kernel
theorem dX3_isOne_36 : decode cX3_isOne 36 = .ok (.ireturn, 1) := by decide +kernel
theorem dX4_init_0 : decode cX4_init 0 = .ok (.aload_n 0, 1) := by decide +kernel
theorem dX4_init_1 : decode cX4_init 1 = .ok (.invokespecial 1, 3) := by decide +kernel
theorem dX4_init_4 : decode cX4_init 4 = .ok (.aload_n 0, 1) := by decide +kernel
theorem dX4_init_5 : decode cX4_init 5 = .ok (.bipush 8, 2) := by decide +kernel
theorem dX4_init_7 : decode cX4_init 7 = .ok (.newarray .boolean, 2) := by decide +kernel
theorem dX4_init_9 : decode cX4_init 9 = .ok (.putfield 9, 3) := by decide +kernel
theorem dX4_init_12 : decode cX4_init 12 = .ok (.aload_n 0, 1) := by decide +kernel
theorem dX4_init_13 : decode cX4_init 13 = .ok (.bipush 8, 2) := by decide +kernel
theorem dX4_init_15 : decode cX4_init 15 = .ok (.newarray .int, 2) := by decide +kernel
theorem dX4_init_17 : decode cX4_init 17 = .ok (.putfield 13, 3) := by decide +kernel
theorem dX4_init_20 : decode cX4_init 20 = .ok (.aload_n 0, 1) := by decide +kernel
theorem dX4_init_21 : decode cX4_init 21 = .ok (.bipush 8, 2) := by decide +kernel
theorem dX4_init_23 : decode cX4_init 23 = .ok (.newarray .int, 2) := by decide +kernel
theorem dX4_init_25 : decode cX4_init 25 = .ok (.putfield 17, 3) := by decide +kernel
theorem dX4_init_28 : decode cX4_init 28 = .ok (.aload_n 0, 1) := by decide +kernel
theorem dX4_init_29 : decode cX4_init 29 = .ok (.bipush 8, 2) := by decide +kernel
theorem dX4_init_31 : decode cX4_init 31 = .ok (.bipush 40, 2) := by decide +kernel
theorem dX4_init_33 : decode cX4_init 33 = .ok (.multianewarray 20 2, 4) := by decide +kernel
theorem dX4_init_37 : decode cX4_init 37 = .ok (.putfield 22, 3) := by decide +kernel
theorem dX4_init_40 : decode cX4_init 40 = .ok (.return_, 1) := by decide +kernel
theorem dX4_isMissing_0 : decode cX4_isMissing 0 = .ok (.aload_n 0, 1) := by decide +kernel
theorem dX4_isMissing_1 : decode cX4_isMissing 1 = .ok (.getfield 9, 3) := by decide +kernel
theorem dX4_isMissing_4 : decode cX4_isMissing 4 = .ok (.iload_n 1, 1) := by decide +kernel
theorem dX4_isMissing_5 : decode cX4_isMissing 5 = .ok (.baload, 1) := by decide +kernel
theorem dX4_isMissing_6 : decode cX4_isMissing 6 = .ok (.ifCond .ne 7, 3) := by decide +kernel
theorem dX4_isMissing_9 : decode cX4_isMissing 9 = .ok (.iconst 1, 1) := by decide +kernel
theorem dX4_isMissing_10 : decode cX4_isMissing 10 = .ok (.goto 4, 3) := by decide +kernel
theorem dX4_isMissing_13 : decode cX4_isMissing 13 = .ok (.iconst 0, 1) := by decide +kernel
theorem dX4_isMissing_14 : decode cX4_isMissing 14 = .ok (.ireturn, 1) := by decide +kernel
theorem dX4_laneOf_0 : decode cX4_laneOf 0 = .ok (.aload_n 0, 1) := by decide +kernel
theorem dX4_laneOf_1 : decode cX4_laneOf 1 = .ok (.getfield 13, 3) := by decide +kernel
theorem dX4_laneOf_4 : decode cX4_laneOf 4 = .ok (.iload_n 1, 1) := by decide +kernel
theorem dX4_laneOf_5 : decode cX4_laneOf 5 = .ok (.iaload, 1) := by decide +kernel
theorem dX4_laneOf_6 : decode cX4_laneOf 6 = .ok (.ireturn, 1) := by decide +kernel
theorem dX4_make_0 : decode cX4_make 0 = .ok (.aload_n 0, 1) := by decide +kernel
theorem dX4_make_1 : decode cX4_make 1 = .ok (.getfield 9, 3) := by decide +kernel
theorem dX4_make_4 : decode cX4_make 4 = .ok (.iload_n 1, 1) := by decide +kernel
theorem dX4_make_5 : decode cX4_make 5 = .ok (.iconst 1, 1) := by decide +kernel
theorem dX4_make_6 : decode cX4_make 6 = .ok (.bastore, 1) := by decide +kernel
theorem dX4_make_7 : decode cX4_make 7 = .ok (.aload_n 0, 1) := by decide +kernel
theorem dX4_make_8 : decode cX4_make 8 = .ok (.getfield 13, 3) := by decide +kernel
theorem dX4_make_11 : decode cX4_make 11 = .ok (.iload_n 1, 1) := by decide +kernel
theorem dX4_make_12 : decode cX4_make 12 = .ok (.iload_n 2, 1) := by decide +kernel
theorem dX4_make_13 : decode cX4_make 13 = .ok (.iastore, 1) := by decide +kernel
theorem dX4_make_14 : decode cX4_make 14 = .ok (.aload_n 0, 1) := by decide +kernel
theorem dX4_make_15 : decode cX4_make 15 = .ok (.getfield 17, 3) := by decide +kernel
theorem dX4_make_18 : decode cX4_make 18 = .ok (.iload_n 1, 1) := by decide +kernel
theorem dX4_make_19 : decode cX4_make 19 = .ok (.iload_n 3, 1) := by decide +kernel
theorem dX4_make_20 : decode cX4_make 20 = .ok (.iastore, 1) := by decide +kernel
theorem dX4_make_21 : decode cX4_make 21 = .ok (.iconst 0, 1) := by decide +kernel
theorem dX4_make_22 : decode cX4_make 22 = .ok (.istore 4, 2) := by decide +kernel
theorem dX4_make_24 : decode cX4_make 24 = .ok (.iload 4, 2) := by decide +kernel
theorem dX4_make_26 : decode cX4_make 26 = .ok (.bipush 40, 2) := by decide +kernel
theorem dX4_make_28 : decode cX4_make 28 = .ok (.if_icmp .ge 19, 3) := by decide +kernel
theorem dX4_make_31 : decode cX4_make 31 = .ok (.aload_n 0, 1) := by decide +kernel
theorem dX4_make_32 : decode cX4_make 32 = .ok (.getfield 22, 3) := by decide +kernel
theorem dX4_make_35 : decode cX4_make 35 = .ok (.iload_n 1, 1) := by decide +kernel
theorem dX4_make_36 : decode cX4_make 36 = .ok (.aaload, 1) := by decide +kernel
theorem dX4_make_37 : decode cX4_make 37 = .ok (.iload 4, 2) := by decide +kernel
theorem dX4_make_39 : decode cX4_make 39 = .ok (.iconst 0, 1) := by decide +kernel
theorem dX4_make_40 : decode cX4_make 40 = .ok (.iastore, 1) := by decide +kernel
theorem dX4_make_41 : decode cX4_make 41 = .ok (.iinc 4 1, 3) := by decide +kernel
theorem dX4_make_44 : decode cX4_make 44 = .ok (.goto (-20), 3) := by decide +kernel
theorem dX4_make_47 : decode cX4_make 47 = .ok (.return_, 1) := by decide +kernel
theorem dX4_remove_0 : decode cX4_remove 0 = .ok (.aload_n 0, 1) := by decide +kernel
theorem dX4_remove_1 : decode cX4_remove 1 = .ok (.getfield 9, 3) := by decide +kernel
theorem dX4_remove_4 : decode cX4_remove 4 = .ok (.iload_n 1, 1) := by decide +kernel
theorem dX4_remove_5 : decode cX4_remove 5 = .ok (.iconst 0, 1) := by decide +kernel
theorem dX4_remove_6 : decode cX4_remove 6 = .ok (.bastore, 1) := by decide +kernel
theorem dX4_remove_7 : decode cX4_remove 7 = .ok (.aload_n 0, 1) := by decide +kernel
theorem dX4_remove_8 : decode cX4_remove 8 = .ok (.getfield 17, 3) := by decide +kernel
theorem dX4_remove_11 : decode cX4_remove 11 = .ok (.iload_n 1, 1) := by decide +kernel
theorem dX4_remove_12 : decode cX4_remove 12 = .ok (.iaload, 1) := by decide +kernel
theorem dX4_remove_13 : decode cX4_remove 13 = .ok (.ireturn, 1) := by decide +kernel
theorem dX4_present_0 : decode cX4_present 0 = .ok (.iconst 0, 1) := by decide +kernel
theorem dX4_present_1 : decode cX4_present 1 = .ok (.istore_n 1, 1) := by decide +kernel
theorem dX4_present_2 : decode cX4_present 2 = .ok (.iconst 0, 1) := by decide +kernel
theorem dX4_present_3 : decode cX4_present 3 = .ok (.istore_n 2, 1) := by decide +kernel
theorem dX4_present_4 : decode cX4_present 4 = .ok (.iload_n 2, 1) := by decide +kernel
theorem dX4_present_5 : decode cX4_present 5 = .ok (.bipush 8, 2) := by decide +kernel
theorem dX4_present_7 : decode cX4_present 7 = .ok (.if_icmp .ge 26, 3) := by decide +kernel
theorem dX4_present_10 : decode cX4_present 10 = .ok (.iload_n 1, 1) := by decide +kernel
theorem dX4_present_11 : decode cX4_present 11 = .ok (.aload_n 0, 1) := by decide +kernel
theorem dX4_present_12 : decode cX4_present 12 = .ok (.getfield 9, 3) := by decide +kernel
theorem dX4_present_15 : decode cX4_present 15 = .ok (.iload_n 2, 1) := by decide +kernel
theorem dX4_present_16 : decode cX4_present 16 = .ok (.baload, 1) := by decide +kernel
theorem dX4_present_17 : decode cX4_present 17 = .ok (.ifCond .eq 7, 3) := by decide +kernel
theorem dX4_present_20 : decode cX4_present 20 = .ok (.iconst 1, 1) := by decide +kernel
theorem dX4_present_21 : decode cX4_present 21 = .ok (.goto 4, 3) := by decide +kernel
theorem dX4_present_24 : decode cX4_present 24 = .ok (.iconst 0, 1) := by decide +kernel
theorem dX4_present_25 : decode cX4_present 25 = .ok (.iadd, 1) := by decide +kernel
theorem dX4_present_26 : decode cX4_present 26 = .ok (.istore_n 1, 1) := by decide +kernel
theorem dX4_present_27 : decode cX4_present 27 = .ok (.iinc 2 1, 3) := by decide +kernel
theorem dX4_present_30 : decode cX4_present 30 = .ok (.goto (-26), 3) := by decide +kernel
theorem dX4_present_33 : decode cX4_present 33 = .ok (.iload_n 1, 1) := by decide +kernel
theorem dX4_present_34 : decode cX4_present 34 = .ok (.ireturn, 1) := by decide +kernel
theorem dX4_reaches_0 : decode cX4_reaches 0 = .ok (.iload_n 2, 1) := by decide +kernel
theorem dX4_reaches_1 : decode cX4_reaches 1 = .ok (.ifCond .lt 23, 3) := by decide +kernel
theorem dX4_reaches_4 : decode cX4_reaches 4 = .ok (.iload_n 3, 1) := by decide +kernel
theorem dX4_reaches_5 : decode cX4_reaches 5 = .ok (.ifCond .lt 19, 3) := by decide +kernel
theorem dX4_reaches_8 : decode cX4_reaches 8 = .ok (.iload_n 2, 1) := by decide +kernel
theorem dX4_reaches_9 : decode cX4_reaches 9 = .ok (.aload_n 0, 1) := by decide +kernel
theorem dX4_reaches_10 : decode cX4_reaches 10 = .ok (.getfield 17, 3) := by decide +kernel
theorem dX4_reaches_13 : decode cX4_reaches 13 = .ok (.iload_n 1, 1) := by decide +kernel
theorem dX4_reaches_14 : decode cX4_reaches 14 = .ok (.iaload, 1) := by decide +kernel
theorem dX4_reaches_15 : decode cX4_reaches 15 = .ok (.iload_n 3, 1) := by decide +kernel
theorem dX4_reaches_16 : decode cX4_reaches 16 = .ok (.isub, 1) := by decide +kernel
theorem dX4_reaches_17 : decode cX4_reaches 17 = .ok (.if_icmp .gt 7, 3) := by decide +kernel
theorem dX4_reaches_20 : decode cX4_reaches 20 = .ok (.iconst 1, 1) := by decide +kernel
theorem dX4_reaches_21 : decode cX4_reaches 21 = .ok (.goto 4, 3) := by decide +kernel
theorem dX4_reaches_24 : decode cX4_reaches 24 = .ok (.iconst 0, 1) := by decide +kernel
theorem dX4_reaches_25 : decode cX4_reaches 25 = .ok (.ireturn, 1) := by decide +kernel
theorem dX4_item_0 : decode cX4_item 0 = .ok (.aload_n 0, 1) := by decide +kernel
theorem dX4_item_1 : decode cX4_item 1 = .ok (.getfield 22, 3) := by decide +kernel
theorem dX4_item_4 : decode cX4_item 4 = .ok (.iload_n 1, 1) := by decide +kernel
theorem dX4_item_5 : decode cX4_item 5 = .ok (.aaload, 1) := by decide +kernel
theorem dX4_item_6 : decode cX4_item 6 = .ok (.iload_n 2, 1) := by decide +kernel
theorem dX4_item_7 : decode cX4_item 7 = .ok (.iaload, 1) := by decide +kernel
theorem dX4_item_8 : decode cX4_item 8 = .ok (.ireturn, 1) := by decide +kernel
theorem dX4_put_0 : decode cX4_put 0 = .ok (.aload_n 0, 1) := by decide +kernel
theorem dX4_put_1 : decode cX4_put 1 = .ok (.getfield 13, 3) := by decide +kernel
theorem dX4_put_4 : decode cX4_put 4 = .ok (.iload_n 1, 1) := by decide +kernel
theorem dX4_put_5 : decode cX4_put 5 = .ok (.iaload, 1) := by decide +kernel
theorem dX4_put_6 : decode cX4_put 6 = .ok (.istore 4, 2) := by decide +kernel
theorem dX4_put_8 : decode cX4_put 8 = .ok (.iload 4, 2) := by decide +kernel
theorem dX4_put_10 : decode cX4_put 10 = .ok (.ifCond .ne 8, 3) := by decide +kernel
theorem dX4_put_13 : decode cX4_put 13 = .ok (.iload_n 3, 1) := by decide +kernel
theorem dX4_put_14 : decode cX4_put 14 = .ok (.i2b, 1) := by decide +kernel
theorem dX4_put_15 : decode cX4_put 15 = .ok (.goto 15, 3) := by decide +kernel
theorem dX4_put_18 : decode cX4_put 18 = .ok (.iload 4, 2) := by decide +kernel
theorem dX4_put_20 : decode cX4_put 20 = .ok (.iconst 1, 1) := by decide +kernel
theorem dX4_put_21 : decode cX4_put 21 = .ok (.if_icmp .ne 8, 3) := by decide +kernel
theorem dX4_put_24 : decode cX4_put 24 = .ok (.iload_n 3, 1) := by decide +kernel
theorem dX4_put_25 : decode cX4_put 25 = .ok (.i2s, 1) := by decide +kernel
theorem dX4_put_26 : decode cX4_put 26 = .ok (.goto 4, 3) := by decide +kernel
theorem dX4_put_29 : decode cX4_put 29 = .ok (.iload_n 3, 1) := by decide +kernel
theorem dX4_put_30 : decode cX4_put 30 = .ok (.istore 5, 2) := by decide +kernel
theorem dX4_put_32 : decode cX4_put 32 = .ok (.aload_n 0, 1) := by decide +kernel
theorem dX4_put_33 : decode cX4_put 33 = .ok (.getfield 22, 3) := by decide +kernel
theorem dX4_put_36 : decode cX4_put 36 = .ok (.iload_n 1, 1) := by decide +kernel
theorem dX4_put_37 : decode cX4_put 37 = .ok (.aaload, 1) := by decide +kernel
theorem dX4_put_38 : decode cX4_put 38 = .ok (.iload_n 2, 1) := by decide +kernel
theorem dX4_put_39 : decode cX4_put 39 = .ok (.iload 5, 2) := by decide +kernel
theorem dX4_put_41 : decode cX4_put 41 = .ok (.iastore, 1) := by decide +kernel
theorem dX4_put_42 : decode cX4_put 42 = .ok (.iload 5, 2) := by decide +kernel
theorem dX4_put_44 : decode cX4_put 44 = .ok (.ireturn, 1) := by decide +kernel
theorem dX4_move_0 : decode cX4_move 0 = .ok (.aload_n 0, 1) := by decide +kernel
theorem dX4_move_1 : decode cX4_move 1 = .ok (.getfield 22, 3) := by decide +kernel
theorem dX4_move_4 : decode cX4_move 4 = .ok (.iload_n 1, 1) := by decide +kernel
theorem dX4_move_5 : decode cX4_move 5 = .ok (.aaload, 1) := by decide +kernel
theorem dX4_move_6 : decode cX4_move 6 = .ok (.iload_n 2, 1) := by decide +kernel
theorem dX4_move_7 : decode cX4_move 7 = .ok (.aload_n 0, 1) := by decide +kernel
theorem dX4_move_8 : decode cX4_move 8 = .ok (.getfield 22, 3) := by decide +kernel
theorem dX4_move_11 : decode cX4_move 11 = .ok (.iload_n 3, 1) := by decide +kernel
theorem dX4_move_12 : decode cX4_move 12 = .ok (.aaload, 1) := by decide +kernel
theorem dX4_move_13 : decode cX4_move 13 = .ok (.iload 4, 2) := by decide +kernel
theorem dX4_move_15 : decode cX4_move 15 = .ok (.iload 5, 2) := by decide +kernel
theorem dX4_move_17 : decode cX4_move 17 = .ok (.invokestatic 25, 3) := by decide +kernel
theorem dX4_move_20 : decode cX4_move 20 = .ok (.return_, 1) := by decide +kernel
theorem dX5_init_0 : decode cX5_init 0 = .ok (.aload_n 0, 1) := by decide +kernel
theorem dX5_init_1 : decode cX5_init 1 = .ok (.invokespecial 3, 3) := by decide +kernel
theorem dX5_init_4 : decode cX5_init 4 = .ok (.aload_n 0, 1) := by decide +kernel
theorem dX5_init_5 : decode cX5_init 5 = .ok (.bipush 100, 2) := by decide +kernel
theorem dX5_init_7 : decode cX5_init 7 = .ok (.newarray .int, 2) := by decide +kernel
theorem dX5_init_9 : decode cX5_init 9 = .ok (.putfield 11, 3) := by decide +kernel
theorem dX5_init_12 : decode cX5_init 12 = .ok (.aload_n 0, 1) := by decide +kernel
theorem dX5_init_13 : decode cX5_init 13 = .ok (.iconst 0, 1) := by decide +kernel
theorem dX5_init_14 : decode cX5_init 14 = .ok (.putfield 15, 3) := by decide +kernel
theorem dX5_init_17 : decode cX5_init 17 = .ok (.aload_n 0, 1) := by decide +kernel
theorem dX5_init_18 : decode cX5_init 18 = .ok (.iconst 0, 1) := by decide +kernel
theorem dX5_init_19 : decode cX5_init 19 = .ok (.putfield 19, 3) := by decide +kernel
theorem dX5_init_22 : decode cX5_init 22 = .ok (.aload_n 0, 1) := by decide +kernel
theorem dX5_init_23 : decode cX5_init 23 = .ok (.iconst 0, 1) := by decide +kernel
theorem dX5_init_24 : decode cX5_init 24 = .ok (.putfield 22, 3) := by decide +kernel
theorem dX5_init_27 : decode cX5_init 27 = .ok (.aload_n 0, 1) := by decide +kernel
theorem dX5_init_28 : decode cX5_init 28 = .ok (.iconst 0, 1) := by decide +kernel
theorem dX5_init_29 : decode cX5_init 29 = .ok (.putfield 25, 3) := by decide +kernel
theorem dX5_init_32 : decode cX5_init 32 = .ok (.return_, 1) := by decide +kernel
theorem dX5_isFull_0 : decode cX5_isFull 0 = .ok (.aload_n 0, 1) := by decide +kernel
theorem dX5_isFull_1 : decode cX5_isFull 1 = .ok (.getfield 15, 3) := by decide +kernel
theorem dX5_isFull_4 : decode cX5_isFull 4 = .ok (.bipush 100, 2) := by decide +kernel
theorem dX5_isFull_6 : decode cX5_isFull 6 = .ok (.if_icmp .lt 7, 3) := by decide +kernel
theorem dX5_isFull_9 : decode cX5_isFull 9 = .ok (.iconst 1, 1) := by decide +kernel
theorem dX5_isFull_10 : decode cX5_isFull 10 = .ok (.goto 4, 3) := by decide +kernel
theorem dX5_isFull_13 : decode cX5_isFull 13 = .ok (.iconst 0, 1) := by decide +kernel
theorem dX5_isFull_14 : decode cX5_isFull 14 = .ok (.ireturn, 1) := by decide +kernel
theorem dX5_add_0 : decode cX5_add 0 = .ok (.aload_n 0, 1) := by decide +kernel
theorem dX5_add_1 : decode cX5_add 1 = .ok (.getfield 11, 3) := by decide +kernel
theorem dX5_add_4 : decode cX5_add 4 = .ok (.aload_n 0, 1) := by decide +kernel
theorem dX5_add_5 : decode cX5_add 5 = .ok (.getfield 15, 3) := by decide +kernel
theorem dX5_add_8 : decode cX5_add 8 = .ok (.iload_n 1, 1) := by decide +kernel
theorem dX5_add_9 : decode cX5_add 9 = .ok (.iastore, 1) := by decide +kernel
theorem dX5_add_10 : decode cX5_add 10 = .ok (.aload_n 0, 1) := by decide +kernel
theorem dX5_add_11 : decode cX5_add 11 = .ok (.dup, 1) := by decide +kernel
theorem dX5_add_12 : decode cX5_add 12 = .ok (.getfield 15, 3) := by decide +kernel
theorem dX5_add_15 : decode cX5_add 15 = .ok (.iconst 1, 1) := by decide +kernel
theorem dX5_add_16 : decode cX5_add 16 = .ok (.iadd, 1) := by decide +kernel
theorem dX5_add_17 : decode cX5_add 17 = .ok (.putfield 15, 3) := by decide +kernel
theorem dX5_add_20 : decode cX5_add 20 = .ok (.aload_n 0, 1) := by decide +kernel
theorem dX5_add_21 : decode cX5_add 21 = .ok (.getfield 15, 3) := by decide +kernel
theorem dX5_add_24 : decode cX5_add 24 = .ok (.ireturn, 1) := by decide +kernel
theorem dX5_clear_0 : decode cX5_clear 0 = .ok (.aload_n 0, 1) := by decide +kernel
theorem dX5_clear_1 : decode cX5_clear 1 = .ok (.iconst 0, 1) := by decide +kernel
theorem dX5_clear_2 : decode cX5_clear 2 = .ok (.putfield 15, 3) := by decide +kernel
theorem dX5_clear_5 : decode cX5_clear 5 = .ok (.return_, 1) := by decide +kernel
theorem dX5_readInto_0 : decode cX5_readInto 0 = .ok (.aload_n 0, 1) := by decide +kernel
theorem dX5_readInto_1 : decode cX5_readInto 1 = .ok (.iconst 0, 1) := by decide +kernel
theorem dX5_readInto_2 : decode cX5_readInto 2 = .ok (.putfield 25, 3) := by decide +kernel
theorem dX5_readInto_5 : decode cX5_readInto 5 = .ok (.aload_n 0, 1) := by decide +kernel
theorem dX5_readInto_6 : decode cX5_readInto 6 = .ok (.iconst 0, 1) := by decide +kernel
theorem dX5_readInto_7 : decode cX5_readInto 7 = .ok (.putfield 19, 3) := by decide +kernel
theorem dX5_readInto_10 : decode cX5_readInto 10 = .ok (.aload_n 1, 1) := by decide +kernel
theorem dX5_readInto_11 : decode cX5_readInto 11 = .ok (.invokevirtual 28, 3) := by decide +kernel
theorem dX5_readInto_14 : decode cX5_readInto 14 = .ok (.aload_n 0, 1) := by decide +kernel
theorem dX5_readInto_15 : decode cX5_readInto 15 = .ok (.aload_n 1, 1) := by decide +kernel
theorem dX5_readInto_16 : decode cX5_readInto 16 = .ok (.invokevirtual 33, 3) := by decide +kernel
theorem dX5_readInto_19 : decode cX5_readInto 19 = .ok (.iconst 0, 1) := by decide +kernel
theorem dX5_readInto_20 : decode cX5_readInto 20 = .ok (.istore_n 2, 1) := by decide +kernel
theorem dX5_readInto_21 : decode cX5_readInto 21 = .ok (.iload_n 2, 1) := by decide +kernel
theorem dX5_readInto_22 : decode cX5_readInto 22 = .ok (.bipush 7, 2) := by decide +kernel
theorem dX5_readInto_24 : decode cX5_readInto 24 = .ok (.if_icmp .gt 36, 3) := by decide +kernel
theorem dX5_readInto_27 : decode cX5_readInto 27 = .ok (.aload_n 0, 1) := by decide +kernel
theorem dX5_readInto_28 : decode cX5_readInto 28 = .ok (.getfield 19, 3) := by decide +kernel
theorem dX5_readInto_31 : decode cX5_readInto 31 = .ok (.ifCond .ne 29, 3) := by decide +kernel
theorem dX5_readInto_34 : decode cX5_readInto 34 = .ok (.iload_n 2, 1) := by decide +kernel
theorem dX5_readInto_35 : decode cX5_readInto 35 = .ok (.ifCond .eq 14, 3) := by decide +kernel
theorem dX5_readInto_38 : decode cX5_readInto 38 = .ok (.aload_n 0, 1) := by decide +kernel
theorem dX5_readInto_39 : decode cX5_readInto 39 = .ok (.getfield 25, 3) := by decide +kernel
theorem dX5_readInto_42 : decode cX5_readInto 42 = .ok (.aload_n 0, 1) := by decide +kernel
theorem dX5_readInto_43 : decode cX5_readInto 43 = .ok (.getfield 15, 3) := by decide +kernel
theorem dX5_readInto_46 : decode cX5_readInto 46 = .ok (.if_icmp .ge 14, 3) := by decide +kernel
theorem dX5_readInto_49 : decode cX5_readInto 49 = .ok (.aload_n 0, 1) := by decide +kernel
theorem dX5_readInto_50 : decode cX5_readInto 50 = .ok (.aload_n 1, 1) := by decide +kernel
theorem dX5_readInto_51 : decode cX5_readInto 51 = .ok (.invokevirtual 37, 3) := by decide +kernel
theorem dX5_readInto_54 : decode cX5_readInto 54 = .ok (.iinc 2 1, 3) := by decide +kernel
theorem dX5_readInto_57 : decode cX5_readInto 57 = .ok (.goto (-36), 3) := by decide +kernel
theorem dX5_readInto_60 : decode cX5_readInto 60 = .ok (.aload_n 0, 1) := by decide +kernel
theorem dX5_readInto_61 : decode cX5_readInto 61 = .ok (.getfield 19, 3) := by decide +kernel
theorem dX5_readInto_64 : decode cX5_readInto 64 = .ok (.ifCond .ne 7, 3) := by decide +kernel
theorem dX5_readInto_67 : decode cX5_readInto 67 = .ok (.iconst 1, 1) := by decide +kernel
theorem dX5_readInto_68 : decode cX5_readInto 68 = .ok (.goto 4, 3) := by decide +kernel
theorem dX5_readInto_71 : decode cX5_readInto 71 = .ok (.iconst 0, 1) := by decide +kernel
theorem dX5_readInto_72 : decode cX5_readInto 72 = .ok (.ireturn, 1) := by decide +kernel
theorem dX5_readLaw_0 : decode cX5_readLaw 0 = .ok (.aload_n 0, 1) := by decide +kernel
theorem dX5_readLaw_1 : decode cX5_readLaw 1 = .ok (.bipush 98, 2) := by decide +kernel
theorem dX5_readLaw_3 : decode cX5_readLaw 3 = .ok (.invokevirtual 40, 3) := by decide +kernel
theorem dX5_readLaw_6 : decode cX5_readLaw 6 = .ok (.aload_n 1, 1) := by decide +kernel
theorem dX5_readLaw_7 : decode cX5_readLaw 7 = .ok (.aload_n 0, 1) := by decide +kernel
theorem dX5_readLaw_8 : decode cX5_readLaw 8 = .ok (.iconst 0, 1) := by decide +kernel
theorem dX5_readLaw_9 : decode cX5_readLaw 9 = .ok (.bipush 23, 2) := by decide +kernel
theorem dX5_readLaw_11 : decode cX5_readLaw 11 = .ok (.invokevirtual 44, 3) := by decide +kernel
theorem dX5_readLaw_14 : decode cX5_readLaw 14 = .ok (.putfield 48, 3) := by decide +kernel
theorem dX5_readLaw_17 : decode cX5_readLaw 17 = .ok (.aload_n 0, 1) := by decide +kernel
theorem dX5_readLaw_18 : decode cX5_readLaw 18 = .ok (.bipush 44, 2) := by decide +kernel
theorem dX5_readLaw_20 : decode cX5_readLaw 20 = .ok (.invokevirtual 40, 3) := by decide +kernel
theorem dX5_readLaw_23 : decode cX5_readLaw 23 = .ok (.aload_n 1, 1) := by decide +kernel
theorem dX5_readLaw_24 : decode cX5_readLaw 24 = .ok (.aload_n 0, 1) := by decide +kernel
theorem dX5_readLaw_25 : decode cX5_readLaw 25 = .ok (.iconst 0, 1) := by decide +kernel
theorem dX5_readLaw_26 : decode cX5_readLaw 26 = .ok (.bipush 9, 2) := by decide +kernel
theorem dX5_readLaw_28 : decode cX5_readLaw 28 = .ok (.invokevirtual 44, 3) := by decide +kernel
theorem dX5_readLaw_31 : decode cX5_readLaw 31 = .ok (.putfield 51, 3) := by decide +kernel
theorem dX5_readLaw_34 : decode cX5_readLaw 34 = .ok (.aload_n 0, 1) := by decide +kernel
theorem dX5_readLaw_35 : decode cX5_readLaw 35 = .ok (.bipush 59, 2) := by decide +kernel
theorem dX5_readLaw_37 : decode cX5_readLaw 37 = .ok (.invokevirtual 40, 3) := by decide +kernel
theorem dX5_readLaw_40 : decode cX5_readLaw 40 = .ok (.return_, 1) := by decide +kernel
theorem dX5_readMan_0 : decode cX5_readMan 0 = .ok (.aload_n 0, 1) := by decide +kernel
theorem dX5_readMan_1 : decode cX5_readMan 1 = .ok (.getfield 25, 3) := by decide +kernel
theorem dX5_readMan_4 : decode cX5_readMan 4 = .ok (.aload_n 0, 1) := by decide +kernel
theorem dX5_readMan_5 : decode cX5_readMan 5 = .ok (.getfield 15, 3) := by decide +kernel
theorem dX5_readMan_8 : decode cX5_readMan 8 = .ok (.if_icmp .ge 23, 3) := by decide +kernel
theorem dX5_readMan_11 : decode cX5_readMan 11 = .ok (.ldc 54, 2) := by decide +kernel
theorem dX5_readMan_13 : decode cX5_readMan 13 = .ok (.aload_n 0, 1) := by decide +kernel
theorem dX5_readMan_14 : decode cX5_readMan 14 = .ok (.getfield 11, 3) := by decide +kernel
theorem dX5_readMan_17 : decode cX5_readMan 17 = .ok (.aload_n 0, 1) := by decide +kernel
theorem dX5_readMan_18 : decode cX5_readMan 18 = .ok (.getfield 25, 3) := by decide +kernel
theorem dX5_readMan_21 : decode cX5_readMan 21 = .ok (.iaload, 1) := by decide +kernel
theorem dX5_readMan_22 : decode cX5_readMan 22 = .ok (.i2c, 1) := by decide +kernel
theorem dX5_readMan_23 : decode cX5_readMan 23 = .ok (.invokevirtual 56, 3) := by decide +kernel
theorem dX5_readMan_26 : decode cX5_readMan 26 = .ok (.iconst 1, 1) := by decide +kernel
theorem dX5_readMan_27 : decode cX5_readMan 27 = .ok (.iadd, 1) := by decide +kernel
theorem dX5_readMan_28 : decode cX5_readMan 28 = .ok (.goto 4, 3) := by decide +kernel
theorem dX5_readMan_31 : decode cX5_readMan 31 = .ok (.iconst 0, 1) := by decide +kernel
theorem dX5_readMan_32 : decode cX5_readMan 32 = .ok (.istore_n 2, 1) := by decide +kernel
theorem dX5_readMan_33 : decode cX5_readMan 33 = .ok (.iload_n 2, 1) := by decide +kernel
theorem dX5_readMan_34 : decode cX5_readMan 34 = .ok (.ifCond .ne 9, 3) := by decide +kernel
theorem dX5_readMan_37 : decode cX5_readMan 37 = .ok (.aload_n 0, 1) := by decide +kernel
theorem dX5_readMan_38 : decode cX5_readMan 38 = .ok (.iconst 1, 1) := by decide +kernel
theorem dX5_readMan_39 : decode cX5_readMan 39 = .ok (.invokevirtual 62, 3) := by decide +kernel
theorem dX5_readMan_42 : decode cX5_readMan 42 = .ok (.return_, 1) := by decide +kernel
theorem dX5_readMan_43 : decode cX5_readMan 43 = .ok (.aload_n 1, 1) := by decide +kernel
theorem dX5_readMan_44 : decode cX5_readMan 44 = .ok (.getfield 66, 3) := by decide +kernel
theorem dX5_readMan_47 : decode cX5_readMan 47 = .ok (.bipush 7, 2) := by decide +kernel
theorem dX5_readMan_49 : decode cX5_readMan 49 = .ok (.if_icmp .lt 9, 3) := by decide +kernel
theorem dX5_readMan_52 : decode cX5_readMan 52 = .ok (.aload_n 0, 1) := by decide +kernel
theorem dX5_readMan_53 : decode cX5_readMan 53 = .ok (.iconst 3, 1) := by decide +kernel
theorem dX5_readMan_54 : decode cX5_readMan 54 = .ok (.invokevirtual 62, 3) := by decide +kernel
theorem dX5_readMan_57 : decode cX5_readMan 57 = .ok (.return_, 1) := by decide +kernel
theorem dX5_readMan_58 : decode cX5_readMan 58 = .ok (.aload_n 0, 1) := by decide +kernel
theorem dX5_readMan_59 : decode cX5_readMan 59 = .ok (.dup, 1) := by decide +kernel
theorem dX5_readMan_60 : decode cX5_readMan 60 = .ok (.getfield 25, 3) := by decide +kernel
theorem dX5_readMan_63 : decode cX5_readMan 63 = .ok (.iconst 1, 1) := by decide +kernel
theorem dX5_readMan_64 : decode cX5_readMan 64 = .ok (.iadd, 1) := by decide +kernel
theorem dX5_readMan_65 : decode cX5_readMan 65 = .ok (.putfield 25, 3) := by decide +kernel
theorem dX5_readMan_68 : decode cX5_readMan 68 = .ok (.aload_n 0, 1) := by decide +kernel
theorem dX5_readMan_69 : decode cX5_readMan 69 = .ok (.iconst 0, 1) := by decide +kernel
theorem dX5_readMan_70 : decode cX5_readMan 70 = .ok (.bipush 23, 2) := by decide +kernel
theorem dX5_readMan_72 : decode cX5_readMan 72 = .ok (.invokevirtual 44, 3) := by decide +kernel
theorem dX5_readMan_75 : decode cX5_readMan 75 = .ok (.istore_n 3, 1) := by decide +kernel
theorem dX5_readMan_76 : decode cX5_readMan 76 = .ok (.aload_n 0, 1) := by decide +kernel
theorem dX5_readMan_77 : decode cX5_readMan 77 = .ok (.bipush 44, 2) := by decide +kernel
theorem dX5_readMan_79 : decode cX5_readMan 79 = .ok (.invokevirtual 40, 3) := by decide +kernel
theorem dX5_readMan_82 : decode cX5_readMan 82 = .ok (.aload_n 0, 1) := by decide +kernel
theorem dX5_readMan_83 : decode cX5_readMan 83 = .ok (.iconst 1, 1) := by decide +kernel
theorem dX5_readMan_84 : decode cX5_readMan 84 = .ok (.bipush 9, 2) := by decide +kernel
theorem dX5_readMan_86 : decode cX5_readMan 86 = .ok (.invokevirtual 44, 3) := by decide +kernel
theorem dX5_readMan_89 : decode cX5_readMan 89 = .ok (.istore 4, 2) := by decide +kernel
theorem dX5_readMan_91 : decode cX5_readMan 91 = .ok (.aload_n 0, 1) := by decide +kernel
theorem dX5_readMan_92 : decode cX5_readMan 92 = .ok (.bipush 59, 2) := by decide +kernel
theorem dX5_readMan_94 : decode cX5_readMan 94 = .ok (.invokevirtual 40, 3) := by decide +kernel
theorem dX5_readMan_97 : decode cX5_readMan 97 = .ok (.aload_n 1, 1) := by decide +kernel
theorem dX5_readMan_98 : decode cX5_readMan 98 = .ok (.iload_n 2, 1) := by decide +kernel
theorem dX5_readMan_99 : decode cX5_readMan 99 = .ok (.iload_n 3, 1) := by decide +kernel
theorem dX5_readMan_100 : decode cX5_readMan 100 = .ok (.iload 4, 2) := by decide +kernel
theorem dX5_readMan_102 : decode cX5_readMan 102 = .ok (.invokevirtual 69, 3) := by decide +kernel
theorem dX5_readMan_105 : decode cX5_readMan 105 = .ok (.return_, 1) := by decide +kernel
theorem dX5_readSign_0 : decode cX5_readSign 0 = .ok (.aload_n 0, 1) := by decide +kernel
theorem dX5_readSign_1 : decode cX5_readSign 1 = .ok (.getfield 19, 3) := by decide +kernel
theorem dX5_readSign_4 : decode cX5_readSign 4 = .ok (.ifCond .eq 4, 3) := by decide +kernel
theorem dX5_readSign_7 : decode cX5_readSign 7 = .ok (.return_, 1) := by decide +kernel
theorem dX5_readSign_8 : decode cX5_readSign 8 = .ok (.aload_n 0, 1) := by decide +kernel
theorem dX5_readSign_9 : decode cX5_readSign 9 = .ok (.getfield 25, 3) := by decide +kernel
theorem dX5_readSign_12 : decode cX5_readSign 12 = .ok (.aload_n 0, 1) := by decide +kernel
theorem dX5_readSign_13 : decode cX5_readSign 13 = .ok (.getfield 15, 3) := by decide +kernel
theorem dX5_readSign_16 : decode cX5_readSign 16 = .ok (.if_icmp .ge 29, 3) := by decide +kernel
theorem dX5_readSign_19 : decode cX5_readSign 19 = .ok (.aload_n 0, 1) := by decide +kernel
theorem dX5_readSign_20 : decode cX5_readSign 20 = .ok (.getfield 11, 3) := by decide +kernel
theorem dX5_readSign_23 : decode cX5_readSign 23 = .ok (.aload_n 0, 1) := by decide +kernel
theorem dX5_readSign_24 : decode cX5_readSign 24 = .ok (.getfield 25, 3) := by decide +kernel
theorem dX5_readSign_27 : decode cX5_readSign 27 = .ok (.iaload, 1) := by decide +kernel
theorem dX5_readSign_28 : decode cX5_readSign 28 = .ok (.iload_n 1, 1) := by decide +kernel
theorem dX5_readSign_29 : decode cX5_readSign 29 = .ok (.if_icmp .ne 16, 3) := by decide +kernel
theorem dX5_readSign_32 : decode cX5_readSign 32 = .ok (.aload_n 0, 1) := by decide +kernel
theorem dX5_readSign_33 : decode cX5_readSign 33 = .ok (.dup, 1) := by decide +kernel
theorem dX5_readSign_34 : decode cX5_readSign 34 = .ok (.getfield 25, 3) := by decide +kernel
theorem dX5_readSign_37 : decode cX5_readSign 37 = .ok (.iconst 1, 1) := by decide +kernel
theorem dX5_readSign_38 : decode cX5_readSign 38 = .ok (.iadd, 1) := by decide +kernel
theorem dX5_readSign_39 : decode cX5_readSign 39 = .ok (.putfield 25, 3) := by decide +kernel
theorem dX5_readSign_42 : decode cX5_readSign 42 = .ok (.goto 8, 3) := by decide +kernel
theorem dX5_readSign_45 : decode cX5_readSign 45 = .ok (.aload_n 0, 1) := by decide +kernel
theorem dX5_readSign_46 : decode cX5_readSign 46 = .ok (.iconst 1, 1) := by decide +kernel
theorem dX5_readSign_47 : decode cX5_readSign 47 = .ok (.invokevirtual 62, 3) := by decide +kernel
theorem dX5_readSign_50 : decode cX5_readSign 50 = .ok (.return_, 1) := by decide +kernel
theorem dX5_readNumber_0 : decode cX5_readNumber 0 = .ok (.aload_n 0, 1) := by decide +kernel
theorem dX5_readNumber_1 : decode cX5_readNumber 1 = .ok (.getfield 19, 3) := by decide +kernel
theorem dX5_readNumber_4 : decode cX5_readNumber 4 = .ok (.ifCond .eq 5, 3) := by decide +kernel
theorem dX5_readNumber_7 : decode cX5_readNumber 7 = .ok (.iconst 0, 1) := by decide +kernel
theorem dX5_readNumber_8 : decode cX5_readNumber 8 = .ok (.ireturn, 1) := by decide +kernel
theorem dX5_readNumber_9 : decode cX5_readNumber 9 = .ok (.iconst 0, 1) := by decide +kernel
theorem dX5_readNumber_10 : decode cX5_readNumber 10 = .ok (.istore_n 3, 1) := by decide +kernel
theorem dX5_readNumber_11 : decode cX5_readNumber 11 = .ok (.iconst 0, 1) := by decide +kernel
theorem dX5_readNumber_12 : decode cX5_readNumber 12 = .ok (.istore 4, 2) := by decide +kernel
theorem dX5_readNumber_14 : decode cX5_readNumber 14 = .ok (.iload_n 3, 1) := by decide +kernel
theorem dX5_readNumber_15 : decode cX5_readNumber 15 = .ok (.iconst 2, 1) := by decide +kernel
theorem dX5_readNumber_16 : decode cX5_readNumber 16 = .ok (.if_icmp .gt 61, 3) := by decide +kernel
theorem dX5_readNumber_19 : decode cX5_readNumber 19 = .ok (.aload_n 0, 1) := by decide +kernel
theorem dX5_readNumber_20 : decode cX5_readNumber 20 = .ok (.getfield 25, 3) := by decide +kernel
theorem dX5_readNumber_23 : decode cX5_readNumber 23 = .ok (.iload_n 3, 1) := by decide +kernel
theorem dX5_readNumber_24 : decode cX5_readNumber 24 = .ok (.iadd, 1) := by decide +kernel
theorem dX5_readNumber_25 : decode cX5_readNumber 25 = .ok (.aload_n 0, 1) := by decide +kernel
theorem dX5_readNumber_26 : decode cX5_readNumber 26 = .ok (.getfield 15, 3) := by decide +kernel
theorem dX5_readNumber_29 : decode cX5_readNumber 29 = .ok (.if_icmp .ge 48, 3) := by decide +kernel
theorem dX5_readNumber_32 : decode cX5_readNumber 32 = .ok (.aload_n 0, 1) := by decide +kernel
theorem dX5_readNumber_33 : decode cX5_readNumber 33 = .ok (.getfield 11, 3) := by decide +kernel
theorem dX5_readNumber_36 : decode cX5_readNumber 36 = .ok (.aload_n 0, 1) := by decide +kernel
theorem dX5_readNumber_37 : decode cX5_readNumber 37 = .ok (.getfield 25, 3) := by decide +kernel
theorem dX5_readNumber_40 : decode cX5_readNumber 40 = .ok (.iload_n 3, 1) := by decide +kernel
theorem dX5_readNumber_41 : decode cX5_readNumber 41 = .ok (.iadd, 1) := by decide +kernel
theorem dX5_readNumber_42 : decode cX5_readNumber 42 = .ok (.iaload, 1) := by decide +kernel
theorem dX5_readNumber_43 : decode cX5_readNumber 43 = .ok (.invokestatic 73, 3) := by decide +kernel
theorem dX5_readNumber_46 : decode cX5_readNumber 46 = .ok (.ifCond .eq 31, 3) := by decide +kernel
theorem dX5_readNumber_49 : decode cX5_readNumber 49 = .ok (.iload 4, 2) := by decide +kernel
theorem dX5_readNumber_51 : decode cX5_readNumber 51 = .ok (.bipush 10, 2) := by decide +kernel
theorem dX5_readNumber_53 : decode cX5_readNumber 53 = .ok (.imul, 1) := by decide +kernel
theorem dX5_readNumber_54 : decode cX5_readNumber 54 = .ok (.aload_n 0, 1) := by decide +kernel
theorem dX5_readNumber_55 : decode cX5_readNumber 55 = .ok (.getfield 11, 3) := by decide +kernel
theorem dX5_readNumber_58 : decode cX5_readNumber 58 = .ok (.aload_n 0, 1) := by decide +kernel
theorem dX5_readNumber_59 : decode cX5_readNumber 59 = .ok (.getfield 25, 3) := by decide +kernel
theorem dX5_readNumber_62 : decode cX5_readNumber 62 = .ok (.iload_n 3, 1) := by decide +kernel
theorem dX5_readNumber_63 : decode cX5_readNumber 63 = .ok (.iadd, 1) := by decide +kernel
theorem dX5_readNumber_64 : decode cX5_readNumber 64 = .ok (.iaload, 1) := by decide +kernel
theorem dX5_readNumber_65 : decode cX5_readNumber 65 = .ok (.iadd, 1) := by decide +kernel
theorem dX5_readNumber_66 : decode cX5_readNumber 66 = .ok (.bipush 48, 2) := by decide +kernel
theorem dX5_readNumber_68 : decode cX5_readNumber 68 = .ok (.isub, 1) := by decide +kernel
theorem dX5_readNumber_69 : decode cX5_readNumber 69 = .ok (.istore 4, 2) := by decide +kernel
theorem dX5_readNumber_71 : decode cX5_readNumber 71 = .ok (.iinc 3 1, 3) := by decide +kernel
theorem dX5_readNumber_74 : decode cX5_readNumber 74 = .ok (.goto (-60), 3) := by decide +kernel
theorem dX5_readNumber_77 : decode cX5_readNumber 77 = .ok (.iload_n 3, 1) := by decide +kernel
theorem dX5_readNumber_78 : decode cX5_readNumber 78 = .ok (.ifCond .eq 8, 3) := by decide +kernel
theorem dX5_readNumber_81 : decode cX5_readNumber 81 = .ok (.iload_n 3, 1) := by decide +kernel
theorem dX5_readNumber_82 : decode cX5_readNumber 82 = .ok (.iconst 2, 1) := by decide +kernel
theorem dX5_readNumber_83 : decode cX5_readNumber 83 = .ok (.if_icmp .le 11, 3) := by decide +kernel
theorem dX5_readNumber_86 : decode cX5_readNumber 86 = .ok (.aload_n 0, 1) := by decide +kernel
theorem dX5_readNumber_87 : decode cX5_readNumber 87 = .ok (.iconst 1, 1) := by decide +kernel
theorem dX5_readNumber_88 : decode cX5_readNumber 88 = .ok (.invokevirtual 62, 3) := by decide +kernel
theorem dX5_readNumber_91 : decode cX5_readNumber 91 = .ok (.goto 31, 3) := by decide +kernel
theorem dX5_readNumber_94 : decode cX5_readNumber 94 = .ok (.iload 4, 2) := by decide +kernel
theorem dX5_readNumber_96 : decode cX5_readNumber 96 = .ok (.iload_n 1, 1) := by decide +kernel
theorem dX5_readNumber_97 : decode cX5_readNumber 97 = .ok (.iload_n 2, 1) := by decide +kernel
theorem dX5_readNumber_98 : decode cX5_readNumber 98 = .ok (.invokestatic 77, 3) := by decide +kernel
theorem dX5_readNumber_101 : decode cX5_readNumber 101 = .ok (.ifCond .eq 11, 3) := by decide +kernel
theorem dX5_readNumber_104 : decode cX5_readNumber 104 = .ok (.aload_n 0, 1) := by decide +kernel
theorem dX5_readNumber_105 : decode cX5_readNumber 105 = .ok (.iconst 2, 1) := by decide +kernel
theorem dX5_readNumber_106 : decode cX5_readNumber 106 = .ok (.invokevirtual 62, 3) := by decide +kernel
theorem dX5_readNumber_109 : decode cX5_readNumber 109 = .ok (.goto 13, 3) := by decide +kernel
theorem dX5_readNumber_112 : decode cX5_readNumber 112 = .ok (.aload_n 0, 1) := by decide +kernel
theorem dX5_readNumber_113 : decode cX5_readNumber 113 = .ok (.dup, 1) := by decide +kernel
theorem dX5_readNumber_114 : decode cX5_readNumber 114 = .ok (.getfield 25, 3) := by decide +kernel
theorem dX5_readNumber_117 : decode cX5_readNumber 117 = .ok (.iload_n 3, 1) := by decide +kernel
theorem dX5_readNumber_118 : decode cX5_readNumber 118 = .ok (.iadd, 1) := by decide +kernel
theorem dX5_readNumber_119 : decode cX5_readNumber 119 = .ok (.putfield 25, 3) := by decide +kernel
theorem dX5_readNumber_122 : decode cX5_readNumber 122 = .ok (.iload 4, 2) := by decide +kernel
theorem dX5_readNumber_124 : decode cX5_readNumber 124 = .ok (.ireturn, 1) := by decide +kernel
theorem dX5_isFigure_0 : decode cX5_isFigure 0 = .ok (.iload_n 0, 1) := by decide +kernel
theorem dX5_isFigure_1 : decode cX5_isFigure 1 = .ok (.bipush 48, 2) := by decide +kernel
theorem dX5_isFigure_3 : decode cX5_isFigure 3 = .ok (.if_icmp .lt 13, 3) := by decide +kernel
theorem dX5_isFigure_6 : decode cX5_isFigure 6 = .ok (.iload_n 0, 1) := by decide +kernel
theorem dX5_isFigure_7 : decode cX5_isFigure 7 = .ok (.bipush 57, 2) := by decide +kernel
theorem dX5_isFigure_9 : decode cX5_isFigure 9 = .ok (.if_icmp .gt 7, 3) := by decide +kernel
theorem dX5_isFigure_12 : decode cX5_isFigure 12 = .ok (.iconst 1, 1) := by decide +kernel
theorem dX5_isFigure_13 : decode cX5_isFigure 13 = .ok (.goto 4, 3) := by decide +kernel
theorem dX5_isFigure_16 : decode cX5_isFigure 16 = .ok (.iconst 0, 1) := by decide +kernel
theorem dX5_isFigure_17 : decode cX5_isFigure 17 = .ok (.ireturn, 1) := by decide +kernel
theorem dX5_blame_0 : decode cX5_blame 0 = .ok (.aload_n 0, 1) := by decide +kernel
theorem dX5_blame_1 : decode cX5_blame 1 = .ok (.iload_n 1, 1) := by decide +kernel
theorem dX5_blame_2 : decode cX5_blame 2 = .ok (.putfield 19, 3) := by decide +kernel
theorem dX5_blame_5 : decode cX5_blame 5 = .ok (.aload_n 0, 1) := by decide +kernel
theorem dX5_blame_6 : decode cX5_blame 6 = .ok (.aload_n 0, 1) := by decide +kernel
theorem dX5_blame_7 : decode cX5_blame 7 = .ok (.getfield 25, 3) := by decide +kernel
theorem dX5_blame_10 : decode cX5_blame 10 = .ok (.putfield 22, 3) := by decide +kernel
theorem dX5_blame_13 : decode cX5_blame 13 = .ok (.return_, 1) := by decide +kernel
theorem dX6_init_0 : decode cX6_init 0 = .ok (.aload_n 0, 1) := by decide +kernel
theorem dX6_init_1 : decode cX6_init 1 = .ok (.invokespecial 1, 3) := by decide +kernel
theorem dX6_init_4 : decode cX6_init 4 = .ok (.aload_n 0, 1) := by decide +kernel
theorem dX6_init_5 : decode cX6_init 5 = .ok (.new 7, 3) := by decide +kernel
theorem dX6_init_8 : decode cX6_init 8 = .ok (.dup, 1) := by decide +kernel
theorem dX6_init_9 : decode cX6_init 9 = .ok (.invokespecial 9, 3) := by decide +kernel
theorem dX6_init_12 : decode cX6_init 12 = .ok (.putfield 10, 3) := by decide +kernel
theorem dX6_init_15 : decode cX6_init 15 = .ok (.aload_n 0, 1) := by decide +kernel
theorem dX6_init_16 : decode cX6_init 16 = .ok (.new 16, 3) := by decide +kernel
theorem dX6_init_19 : decode cX6_init 19 = .ok (.dup, 1) := by decide +kernel
theorem dX6_init_20 : decode cX6_init 20 = .ok (.invokespecial 18, 3) := by decide +kernel
theorem dX6_init_23 : decode cX6_init 23 = .ok (.putfield 19, 3) := by decide +kernel
theorem dX6_init_26 : decode cX6_init 26 = .ok (.aload_n 0, 1) := by decide +kernel
theorem dX6_init_27 : decode cX6_init 27 = .ok (.new 23, 3) := by decide +kernel
theorem dX6_init_30 : decode cX6_init 30 = .ok (.dup, 1) := by decide +kernel
theorem dX6_init_31 : decode cX6_init 31 = .ok (.invokespecial 25, 3) := by decide +kernel
theorem dX6_init_34 : decode cX6_init 34 = .ok (.putfield 26, 3) := by decide +kernel
theorem dX6_init_37 : decode cX6_init 37 = .ok (.aload_n 0, 1) := by decide +kernel
theorem dX6_init_38 : decode cX6_init 38 = .ok (.new 30, 3) := by decide +kernel
theorem dX6_init_41 : decode cX6_init 41 = .ok (.dup, 1) := by decide +kernel
theorem dX6_init_42 : decode cX6_init 42 = .ok (.invokespecial 32, 3) := by decide +kernel
theorem dX6_init_45 : decode cX6_init 45 = .ok (.putfield 33, 3) := by decide +kernel
theorem dX6_init_48 : decode cX6_init 48 = .ok (.aload_n 0, 1) := by decide +kernel
theorem dX6_init_49 : decode cX6_init 49 = .ok (.new 23, 3) := by decide +kernel
theorem dX6_init_52 : decode cX6_init 52 = .ok (.dup, 1) := by decide +kernel
theorem dX6_init_53 : decode cX6_init 53 = .ok (.invokespecial 25, 3) := by decide +kernel
theorem dX6_init_56 : decode cX6_init 56 = .ok (.putfield 37, 3) := by decide +kernel
theorem dX6_init_59 : decode cX6_init 59 = .ok (.aload_n 0, 1) := by decide +kernel
theorem dX6_init_60 : decode cX6_init 60 = .ok (.new 23, 3) := by decide +kernel
theorem dX6_init_63 : decode cX6_init 63 = .ok (.dup, 1) := by decide +kernel
theorem dX6_init_64 : decode cX6_init 64 = .ok (.invokespecial 25, 3) := by decide +kernel
theorem dX6_init_67 : decode cX6_init 67 = .ok (.putfield 40, 3) := by decide +kernel
theorem dX6_init_70 : decode cX6_init 70 = .ok (.aload_n 0, 1) := by decide +kernel
theorem dX6_init_71 : decode cX6_init 71 = .ok (.new 23, 3) := by decide +kernel
theorem dX6_init_74 : decode cX6_init 74 = .ok (.dup, 1) := by decide +kernel
theorem dX6_init_75 : decode cX6_init 75 = .ok (.invokespecial 25, 3) := by decide +kernel
theorem dX6_init_78 : decode cX6_init 78 = .ok (.putfield 43, 3) := by decide +kernel
theorem dX6_init_81 : decode cX6_init 81 = .ok (.aload_n 0, 1) := by decide +kernel
theorem dX6_init_82 : decode cX6_init 82 = .ok (.new 23, 3) := by decide +kernel
theorem dX6_init_85 : decode cX6_init 85 = .ok (.dup, 1) := by decide +kernel
theorem dX6_init_86 : decode cX6_init 86 = .ok (.invokespecial 25, 3) := by decide +kernel
theorem dX6_init_89 : decode cX6_init 89 = .ok (.putfield 46, 3) := by decide +kernel
theorem dX6_init_92 : decode cX6_init 92 = .ok (.aload_n 0, 1) := by decide +kernel
theorem dX6_init_93 : decode cX6_init 93 = .ok (.new 49, 3) := by decide +kernel
theorem dX6_init_96 : decode cX6_init 96 = .ok (.dup, 1) := by decide +kernel
theorem dX6_init_97 : decode cX6_init 97 = .ok (.invokespecial 51, 3) := by decide +kernel
theorem dX6_init_100 : decode cX6_init 100 = .ok (.putfield 52, 3) := by decide +kernel
theorem dX6_init_103 : decode cX6_init 103 = .ok (.aload_n 0, 1) := by decide +kernel
theorem dX6_init_104 : decode cX6_init 104 = .ok (.iconst 0, 1) := by decide +kernel
theorem dX6_init_105 : decode cX6_init 105 = .ok (.putfield 56, 3) := by decide +kernel
theorem dX6_init_108 : decode cX6_init 108 = .ok (.aload_n 0, 1) := by decide +kernel
theorem dX6_init_109 : decode cX6_init 109 = .ok (.iconst 0, 1) := by decide +kernel
theorem dX6_init_110 : decode cX6_init 110 = .ok (.putfield 60, 3) := by decide +kernel
theorem dX6_init_113 : decode cX6_init 113 = .ok (.return_, 1) := by decide +kernel
theorem dX6_row_0 : decode cX6_row 0 = .ok (.iload_n 1, 1) := by decide +kernel
theorem dX6_row_1 : decode cX6_row 1 = .ok (.invokestatic 63, 3) := by decide +kernel
theorem dX6_row_4 : decode cX6_row 4 = .ok (.ifCond .ne 18, 3) := by decide +kernel
theorem dX6_row_7 : decode cX6_row 7 = .ok (.iload_n 2, 1) := by decide +kernel
theorem dX6_row_8 : decode cX6_row 8 = .ok (.iconst 0, 1) := by decide +kernel
theorem dX6_row_9 : decode cX6_row 9 = .ok (.iconst 2, 1) := by decide +kernel
theorem dX6_row_10 : decode cX6_row 10 = .ok (.invokestatic 67, 3) := by decide +kernel
theorem dX6_row_13 : decode cX6_row 13 = .ok (.ifCond .ne 9, 3) := by decide +kernel
theorem dX6_row_16 : decode cX6_row 16 = .ok (.iload_n 3, 1) := by decide +kernel
theorem dX6_row_17 : decode cX6_row 17 = .ok (.bipush 40, 2) := by decide +kernel
theorem dX6_row_19 : decode cX6_row 19 = .ok (.if_icmp .le 6, 3) := by decide +kernel
theorem dX6_row_22 : decode cX6_row 22 = .ok (.ldc 71, 2) := by decide +kernel
theorem dX6_row_24 : decode cX6_row 24 = .ok (.ireturn, 1) := by decide +kernel
theorem dX6_row_25 : decode cX6_row 25 = .ok (.iload_n 3, 1) := by decide +kernel
theorem dX6_row_26 : decode cX6_row 26 = .ok (.ifCond .ge 9, 3) := by decide +kernel
theorem dX6_row_29 : decode cX6_row 29 = .ok (.aload_n 0, 1) := by decide +kernel
theorem dX6_row_30 : decode cX6_row 30 = .ok (.iconst 4, 1) := by decide +kernel
theorem dX6_row_31 : decode cX6_row 31 = .ok (.invokevirtual 72, 3) := by decide +kernel
theorem dX6_row_34 : decode cX6_row 34 = .ok (.ireturn, 1) := by decide +kernel
theorem dX6_row_35 : decode cX6_row 35 = .ok (.aload_n 0, 1) := by decide +kernel
theorem dX6_row_36 : decode cX6_row 36 = .ok (.getfield 10, 3) := by decide +kernel
theorem dX6_row_39 : decode cX6_row 39 = .ok (.iload_n 1, 1) := by decide +kernel
theorem dX6_row_40 : decode cX6_row 40 = .ok (.iload_n 2, 1) := by decide +kernel
theorem dX6_row_41 : decode cX6_row 41 = .ok (.iload_n 3, 1) := by decide +kernel
theorem dX6_row_42 : decode cX6_row 42 = .ok (.invokevirtual 76, 3) := by decide +kernel
theorem dX6_row_45 : decode cX6_row 45 = .ok (.aload_n 0, 1) := by decide +kernel
theorem dX6_row_46 : decode cX6_row 46 = .ok (.iload_n 3, 1) := by decide +kernel
theorem dX6_row_47 : decode cX6_row 47 = .ok (.invokevirtual 80, 3) := by decide +kernel
theorem dX6_row_50 : decode cX6_row 50 = .ok (.ireturn, 1) := by decide +kernel
theorem dX6_set_0 : decode cX6_set 0 = .ok (.iload_n 1, 1) := by decide +kernel
theorem dX6_set_1 : decode cX6_set 1 = .ok (.invokestatic 63, 3) := by decide +kernel
theorem dX6_set_4 : decode cX6_set 4 = .ok (.ifCond .eq 6, 3) := by decide +kernel
