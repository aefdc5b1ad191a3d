theorem dX7_init_54 : decode cX7_init 54 = .ok (.aload_n 0, 1) := by decide +kernel
theorem dX7_init_55 : decode cX7_init 55 = .ok (.sipush 320, 3) := by decide +kernel
theorem dX7_init_58 : decode cX7_init 58 = .ok (.newarray .int, 2) := by decide +kernel
theorem dX7_init_60 : decode cX7_init 60 = .ok (.putfield 16, 3) := by decide +kernel
theorem dX7_init_63 : decode cX7_init 63 = .ok (.aload_n 0, 1) := by decide +kernel
theorem dX7_init_64 : decode cX7_init 64 = .ok (.bipush 50, 2) := by decide +kernel
theorem dX7_init_66 : decode cX7_init 66 = .ok (.newarray .int, 2) := by decide +kernel
theorem dX7_init_68 : decode cX7_init 68 = .ok (.putfield 19, 3) := by decide +kernel
theorem dX7_init_71 : decode cX7_init 71 = .ok (.aload_n 0, 1) := by decide +kernel
theorem dX7_init_72 : decode cX7_init 72 = .ok (.bipush 50, 2) := by decide +kernel
theorem dX7_init_74 : decode cX7_init 74 = .ok (.newarray .int, 2) := by decide +kernel
theorem dX7_init_76 : decode cX7_init 76 = .ok (.putfield 22, 3) := by decide +kernel
theorem dX7_init_79 : decode cX7_init 79 = .ok (.aload_n 0, 1) := by decide +kernel
theorem dX7_init_80 : decode cX7_init 80 = .ok (.bipush 50, 2) := by decide +kernel
theorem dX7_init_82 : decode cX7_init 82 = .ok (.newarray .int, 2) := by decide +kernel
theorem dX7_init_84 : decode cX7_init 84 = .ok (.putfield 25, 3) := by decide +kernel
theorem dX7_init_87 : decode cX7_init 87 = .ok (.aload_n 0, 1) := by decide +kernel
theorem dX7_init_88 : decode cX7_init 88 = .ok (.sipush 1200, 3) := by decide +kernel
theorem dX7_init_91 : decode cX7_init 91 = .ok (.newarray .int, 2) := by decide +kernel
theorem dX7_init_93 : decode cX7_init 93 = .ok (.putfield 28, 3) := by decide +kernel
theorem dX7_init_96 : decode cX7_init 96 = .ok (.aload_n 0, 1) := by decide +kernel
theorem dX7_init_97 : decode cX7_init 97 = .ok (.bipush 100, 2) := by decide +kernel
theorem dX7_init_99 : decode cX7_init 99 = .ok (.newarray .int, 2) := by decide +kernel
theorem dX7_init_101 : decode cX7_init 101 = .ok (.putfield 31, 3) := by decide +kernel
theorem dX7_init_104 : decode cX7_init 104 = .ok (.aload_n 0, 1) := by decide +kernel
theorem dX7_init_105 : decode cX7_init 105 = .ok (.bipush 7, 2) := by decide +kernel
theorem dX7_init_107 : decode cX7_init 107 = .ok (.newarray .int, 2) := by decide +kernel
theorem dX7_init_109 : decode cX7_init 109 = .ok (.putfield 34, 3) := by decide +kernel
theorem dX7_init_112 : decode cX7_init 112 = .ok (.aload_n 0, 1) := by decide +kernel
theorem dX7_init_113 : decode cX7_init 113 = .ok (.bipush 7, 2) := by decide +kernel
theorem dX7_init_115 : decode cX7_init 115 = .ok (.newarray .int, 2) := by decide +kernel
theorem dX7_init_117 : decode cX7_init 117 = .ok (.putfield 37, 3) := by decide +kernel
theorem dX7_init_120 : decode cX7_init 120 = .ok (.aload_n 0, 1) := by decide +kernel
theorem dX7_init_121 : decode cX7_init 121 = .ok (.iconst 2, 1) := by decide +kernel
theorem dX7_init_122 : decode cX7_init 122 = .ok (.newarray .boolean, 2) := by decide +kernel
theorem dX7_init_124 : decode cX7_init 124 = .ok (.putfield 40, 3) := by decide +kernel
theorem dX7_init_127 : decode cX7_init 127 = .ok (.aload_n 0, 1) := by decide +kernel
theorem dX7_init_128 : decode cX7_init 128 = .ok (.bipush 100, 2) := by decide +kernel
theorem dX7_init_130 : decode cX7_init 130 = .ok (.newarray .int, 2) := by decide +kernel
theorem dX7_init_132 : decode cX7_init 132 = .ok (.putfield 44, 3) := by decide +kernel
theorem dX7_init_135 : decode cX7_init 135 = .ok (.aload_n 0, 1) := by decide +kernel
theorem dX7_init_136 : decode cX7_init 136 = .ok (.bipush 16, 2) := by decide +kernel
theorem dX7_init_138 : decode cX7_init 138 = .ok (.newarray .int, 2) := by decide +kernel
theorem dX7_init_140 : decode cX7_init 140 = .ok (.putfield 47, 3) := by decide +kernel
theorem dX7_init_143 : decode cX7_init 143 = .ok (.return_, 1) := by decide +kernel
theorem dX7_in_0 : decode cX7_in 0 = .ok (.lload_n 0, 1) := by decide +kernel
theorem dX7_in_1 : decode cX7_in 1 = .ok (.lload_n 2, 1) := by decide +kernel
theorem dX7_in_2 : decode cX7_in 2 = .ok (.lcmp, 1) := by decide +kernel
theorem dX7_in_3 : decode cX7_in 3 = .ok (.ifCond .lt 14, 3) := by decide +kernel
theorem dX7_in_6 : decode cX7_in 6 = .ok (.lload_n 0, 1) := by decide +kernel
theorem dX7_in_7 : decode cX7_in 7 = .ok (.lload 4, 2) := by decide +kernel
theorem dX7_in_9 : decode cX7_in 9 = .ok (.lcmp, 1) := by decide +kernel
theorem dX7_in_10 : decode cX7_in 10 = .ok (.ifCond .gt 7, 3) := by decide +kernel
theorem dX7_in_13 : decode cX7_in 13 = .ok (.iconst 1, 1) := by decide +kernel
theorem dX7_in_14 : decode cX7_in 14 = .ok (.goto 4, 3) := by decide +kernel
theorem dX7_in_17 : decode cX7_in 17 = .ok (.iconst 0, 1) := by decide +kernel
theorem dX7_in_18 : decode cX7_in 18 = .ok (.ireturn, 1) := by decide +kernel
theorem dX7_finding_0 : decode cX7_finding 0 = .ok (.aload_n 0, 1) := by decide +kernel
theorem dX7_finding_1 : decode cX7_finding 1 = .ok (.iload_n 1, 1) := by decide +kernel
theorem dX7_finding_2 : decode cX7_finding 2 = .ok (.putfield 54, 3) := by decide +kernel
theorem dX7_finding_5 : decode cX7_finding 5 = .ok (.ldc 57, 2) := by decide +kernel
theorem dX7_finding_7 : decode cX7_finding 7 = .ok (.iload_n 1, 1) := by decide +kernel
theorem dX7_finding_8 : decode cX7_finding 8 = .ok (.isub, 1) := by decide +kernel
theorem dX7_finding_9 : decode cX7_finding 9 = .ok (.ireturn, 1) := by decide +kernel
theorem dX7_isRow_0 : decode cX7_isRow 0 = .ok (.iload_n 0, 1) := by decide +kernel
theorem dX7_isRow_1 : decode cX7_isRow 1 = .ok (.i2l, 1) := by decide +kernel
theorem dX7_isRow_2 : decode cX7_isRow 2 = .ok (.lconst 0, 1) := by decide +kernel
theorem dX7_isRow_3 : decode cX7_isRow 3 = .ok (.ldc2_w 58, 3) := by decide +kernel
theorem dX7_isRow_6 : decode cX7_isRow 6 = .ok (.invokestatic 60, 3) := by decide +kernel
theorem dX7_isRow_9 : decode cX7_isRow 9 = .ok (.ireturn, 1) := by decide +kernel
theorem dX7_row_0 : decode cX7_row 0 = .ok (.aload_n 0, 1) := by decide +kernel
theorem dX7_row_1 : decode cX7_row 1 = .ok (.iconst 0, 1) := by decide +kernel
theorem dX7_row_2 : decode cX7_row 2 = .ok (.putfield 50, 3) := by decide +kernel
theorem dX7_row_5 : decode cX7_row 5 = .ok (.iload_n 1, 1) := by decide +kernel
theorem dX7_row_6 : decode cX7_row 6 = .ok (.invokestatic 64, 3) := by decide +kernel
theorem dX7_row_9 : decode cX7_row 9 = .ok (.ifCond .eq 21, 3) := by decide +kernel
theorem dX7_row_12 : decode cX7_row 12 = .ok (.iload_n 2, 1) := by decide +kernel
theorem dX7_row_13 : decode cX7_row 13 = .ok (.i2l, 1) := by decide +kernel
theorem dX7_row_14 : decode cX7_row 14 = .ok (.lconst 0, 1) := by decide +kernel
theorem dX7_row_15 : decode cX7_row 15 = .ok (.ldc2_w 68, 3) := by decide +kernel
theorem dX7_row_18 : decode cX7_row 18 = .ok (.invokestatic 60, 3) := by decide +kernel
theorem dX7_row_21 : decode cX7_row 21 = .ok (.ifCond .eq 9, 3) := by decide +kernel
theorem dX7_row_24 : decode cX7_row 24 = .ok (.iload_n 3, 1) := by decide +kernel
theorem dX7_row_25 : decode cX7_row 25 = .ok (.bipush 40, 2) := by decide +kernel
theorem dX7_row_27 : decode cX7_row 27 = .ok (.if_icmp .le 6, 3) := by decide +kernel
theorem dX7_row_30 : decode cX7_row 30 = .ok (.ldc 70, 2) := by decide +kernel
theorem dX7_row_32 : decode cX7_row 32 = .ok (.ireturn, 1) := by decide +kernel
theorem dX7_row_33 : decode cX7_row 33 = .ok (.aload_n 0, 1) := by decide +kernel
theorem dX7_row_34 : decode cX7_row 34 = .ok (.iconst 0, 1) := by decide +kernel
theorem dX7_row_35 : decode cX7_row 35 = .ok (.putfield 54, 3) := by decide +kernel
theorem dX7_row_38 : decode cX7_row 38 = .ok (.iload_n 3, 1) := by decide +kernel
theorem dX7_row_39 : decode cX7_row 39 = .ok (.ifCond .ge 9, 3) := by decide +kernel
theorem dX7_row_42 : decode cX7_row 42 = .ok (.aload_n 0, 1) := by decide +kernel
theorem dX7_row_43 : decode cX7_row 43 = .ok (.iconst 4, 1) := by decide +kernel
theorem dX7_row_44 : decode cX7_row 44 = .ok (.invokevirtual 71, 3) := by decide +kernel
theorem dX7_row_47 : decode cX7_row 47 = .ok (.ireturn, 1) := by decide +kernel
theorem dX7_row_48 : decode cX7_row 48 = .ok (.aload_n 0, 1) := by decide +kernel
theorem dX7_row_49 : decode cX7_row 49 = .ok (.getfield 7, 3) := by decide +kernel
theorem dX7_row_52 : decode cX7_row 52 = .ok (.iload_n 1, 1) := by decide +kernel
theorem dX7_row_53 : decode cX7_row 53 = .ok (.iload_n 2, 1) := by decide +kernel
theorem dX7_row_54 : decode cX7_row 54 = .ok (.iastore, 1) := by decide +kernel
theorem dX7_row_55 : decode cX7_row 55 = .ok (.aload_n 0, 1) := by decide +kernel
theorem dX7_row_56 : decode cX7_row 56 = .ok (.getfield 13, 3) := by decide +kernel
theorem dX7_row_59 : decode cX7_row 59 = .ok (.iload_n 1, 1) := by decide +kernel
theorem dX7_row_60 : decode cX7_row 60 = .ok (.iload_n 3, 1) := by decide +kernel
theorem dX7_row_61 : decode cX7_row 61 = .ok (.iastore, 1) := by decide +kernel
theorem dX7_row_62 : decode cX7_row 62 = .ok (.iconst 0, 1) := by decide +kernel
theorem dX7_row_63 : decode cX7_row 63 = .ok (.istore 4, 2) := by decide +kernel
theorem dX7_row_65 : decode cX7_row 65 = .ok (.iload 4, 2) := by decide +kernel
theorem dX7_row_67 : decode cX7_row 67 = .ok (.bipush 40, 2) := by decide +kernel
theorem dX7_row_69 : decode cX7_row 69 = .ok (.if_icmp .ge 22, 3) := by decide +kernel
theorem dX7_row_72 : decode cX7_row 72 = .ok (.aload_n 0, 1) := by decide +kernel
theorem dX7_row_73 : decode cX7_row 73 = .ok (.getfield 16, 3) := by decide +kernel
theorem dX7_row_76 : decode cX7_row 76 = .ok (.bipush 40, 2) := by decide +kernel
theorem dX7_row_78 : decode cX7_row 78 = .ok (.iload_n 1, 1) := by decide +kernel
theorem dX7_row_79 : decode cX7_row 79 = .ok (.imul, 1) := by decide +kernel
theorem dX7_row_80 : decode cX7_row 80 = .ok (.iload 4, 2) := by decide +kernel
theorem dX7_row_82 : decode cX7_row 82 = .ok (.iadd, 1) := by decide +kernel
theorem dX7_row_83 : decode cX7_row 83 = .ok (.iconst 0, 1) := by decide +kernel
theorem dX7_row_84 : decode cX7_row 84 = .ok (.iastore, 1) := by decide +kernel
theorem dX7_row_85 : decode cX7_row 85 = .ok (.iinc 4 1, 3) := by decide +kernel
theorem dX7_row_88 : decode cX7_row 88 = .ok (.goto (-23), 3) := by decide +kernel
theorem dX7_row_91 : decode cX7_row 91 = .ok (.iload_n 3, 1) := by decide +kernel
theorem dX7_row_92 : decode cX7_row 92 = .ok (.ireturn, 1) := by decide +kernel
theorem dX7_set_0 : decode cX7_set 0 = .ok (.aload_n 0, 1) := by decide +kernel
theorem dX7_set_1 : decode cX7_set 1 = .ok (.iconst 0, 1) := by decide +kernel
theorem dX7_set_2 : decode cX7_set 2 = .ok (.putfield 50, 3) := by decide +kernel
theorem dX7_set_5 : decode cX7_set 5 = .ok (.iload_n 1, 1) := by decide +kernel
theorem dX7_set_6 : decode cX7_set 6 = .ok (.invokestatic 64, 3) := by decide +kernel
theorem dX7_set_9 : decode cX7_set 9 = .ok (.ifCond .ne 6, 3) := by decide +kernel
theorem dX7_set_12 : decode cX7_set 12 = .ok (.ldc 70, 2) := by decide +kernel
theorem dX7_set_14 : decode cX7_set 14 = .ok (.ireturn, 1) := by decide +kernel
theorem dX7_set_15 : decode cX7_set 15 = .ok (.aload_n 0, 1) := by decide +kernel
theorem dX7_set_16 : decode cX7_set 16 = .ok (.iconst 0, 1) := by decide +kernel
theorem dX7_set_17 : decode cX7_set 17 = .ok (.putfield 54, 3) := by decide +kernel
theorem dX7_set_20 : decode cX7_set 20 = .ok (.aload_n 0, 1) := by decide +kernel
theorem dX7_set_21 : decode cX7_set 21 = .ok (.getfield 7, 3) := by decide +kernel
theorem dX7_set_24 : decode cX7_set 24 = .ok (.iload_n 1, 1) := by decide +kernel
theorem dX7_set_25 : decode cX7_set 25 = .ok (.iaload, 1) := by decide +kernel
theorem dX7_set_26 : decode cX7_set 26 = .ok (.ifCond .ge 9, 3) := by decide +kernel
theorem dX7_set_29 : decode cX7_set 29 = .ok (.aload_n 0, 1) := by decide +kernel
theorem dX7_set_30 : decode cX7_set 30 = .ok (.iconst 1, 1) := by decide +kernel
theorem dX7_set_31 : decode cX7_set 31 = .ok (.invokevirtual 71, 3) := by decide +kernel
theorem dX7_set_34 : decode cX7_set 34 = .ok (.ireturn, 1) := by decide +kernel
theorem dX7_set_35 : decode cX7_set 35 = .ok (.iload_n 2, 1) := by decide +kernel
theorem dX7_set_36 : decode cX7_set 36 = .ok (.i2l, 1) := by decide +kernel
theorem dX7_set_37 : decode cX7_set 37 = .ok (.lconst 0, 1) := by decide +kernel
theorem dX7_set_38 : decode cX7_set 38 = .ok (.aload_n 0, 1) := by decide +kernel
theorem dX7_set_39 : decode cX7_set 39 = .ok (.getfield 13, 3) := by decide +kernel
theorem dX7_set_42 : decode cX7_set 42 = .ok (.iload_n 1, 1) := by decide +kernel
theorem dX7_set_43 : decode cX7_set 43 = .ok (.iaload, 1) := by decide +kernel
theorem dX7_set_44 : decode cX7_set 44 = .ok (.iconst 1, 1) := by decide +kernel
theorem dX7_set_45 : decode cX7_set 45 = .ok (.isub, 1) := by decide +kernel
theorem dX7_set_46 : decode cX7_set 46 = .ok (.i2l, 1) := by decide +kernel
theorem dX7_set_47 : decode cX7_set 47 = .ok (.invokestatic 60, 3) := by decide +kernel
theorem dX7_set_50 : decode cX7_set 50 = .ok (.ifCond .ne 9, 3) := by decide +kernel
theorem dX7_set_53 : decode cX7_set 53 = .ok (.aload_n 0, 1) := by decide +kernel
theorem dX7_set_54 : decode cX7_set 54 = .ok (.iconst 2, 1) := by decide +kernel
theorem dX7_set_55 : decode cX7_set 55 = .ok (.invokevirtual 71, 3) := by decide +kernel
theorem dX7_set_58 : decode cX7_set 58 = .ok (.ireturn, 1) := by decide +kernel
theorem dX7_set_59 : decode cX7_set 59 = .ok (.aload_n 0, 1) := by decide +kernel
theorem dX7_set_60 : decode cX7_set 60 = .ok (.getfield 16, 3) := by decide +kernel
theorem dX7_set_63 : decode cX7_set 63 = .ok (.bipush 40, 2) := by decide +kernel
theorem dX7_set_65 : decode cX7_set 65 = .ok (.iload_n 1, 1) := by decide +kernel
theorem dX7_set_66 : decode cX7_set 66 = .ok (.imul, 1) := by decide +kernel
theorem dX7_set_67 : decode cX7_set 67 = .ok (.iload_n 2, 1) := by decide +kernel
theorem dX7_set_68 : decode cX7_set 68 = .ok (.iadd, 1) := by decide +kernel
theorem dX7_set_69 : decode cX7_set 69 = .ok (.aload_n 0, 1) := by decide +kernel
theorem dX7_set_70 : decode cX7_set 70 = .ok (.getfield 7, 3) := by decide +kernel
theorem dX7_set_73 : decode cX7_set 73 = .ok (.iload_n 1, 1) := by decide +kernel
theorem dX7_set_74 : decode cX7_set 74 = .ok (.iaload, 1) := by decide +kernel
theorem dX7_set_75 : decode cX7_set 75 = .ok (.ifCond .ne 8, 3) := by decide +kernel
theorem dX7_set_78 : decode cX7_set 78 = .ok (.iload_n 3, 1) := by decide +kernel
theorem dX7_set_79 : decode cX7_set 79 = .ok (.i2b, 1) := by decide +kernel
theorem dX7_set_80 : decode cX7_set 80 = .ok (.goto 19, 3) := by decide +kernel
theorem dX7_set_83 : decode cX7_set 83 = .ok (.aload_n 0, 1) := by decide +kernel
theorem dX7_set_84 : decode cX7_set 84 = .ok (.getfield 7, 3) := by decide +kernel
theorem dX7_set_87 : decode cX7_set 87 = .ok (.iload_n 1, 1) := by decide +kernel
theorem dX7_set_88 : decode cX7_set 88 = .ok (.iaload, 1) := by decide +kernel
theorem dX7_set_89 : decode cX7_set 89 = .ok (.iconst 1, 1) := by decide +kernel
theorem dX7_set_90 : decode cX7_set 90 = .ok (.if_icmp .ne 8, 3) := by decide +kernel
theorem dX7_set_93 : decode cX7_set 93 = .ok (.iload_n 3, 1) := by decide +kernel
theorem dX7_set_94 : decode cX7_set 94 = .ok (.i2s, 1) := by decide +kernel
theorem dX7_set_95 : decode cX7_set 95 = .ok (.goto 4, 3) := by decide +kernel
theorem dX7_set_98 : decode cX7_set 98 = .ok (.iload_n 3, 1) := by decide +kernel
theorem dX7_set_99 : decode cX7_set 99 = .ok (.iastore, 1) := by decide +kernel
theorem dX7_set_100 : decode cX7_set 100 = .ok (.aload_n 0, 1) := by decide +kernel
theorem dX7_set_101 : decode cX7_set 101 = .ok (.getfield 16, 3) := by decide +kernel
theorem dX7_set_104 : decode cX7_set 104 = .ok (.bipush 40, 2) := by decide +kernel
theorem dX7_set_106 : decode cX7_set 106 = .ok (.iload_n 1, 1) := by decide +kernel
theorem dX7_set_107 : decode cX7_set 107 = .ok (.imul, 1) := by decide +kernel
theorem dX7_set_108 : decode cX7_set 108 = .ok (.iload_n 2, 1) := by decide +kernel
theorem dX7_set_109 : decode cX7_set 109 = .ok (.iadd, 1) := by decide +kernel
theorem dX7_set_110 : decode cX7_set 110 = .ok (.iaload, 1) := by decide +kernel
theorem dX7_set_111 : decode cX7_set 111 = .ok (.ireturn, 1) := by decide +kernel
theorem dX7_copy_0 : decode cX7_copy 0 = .ok (.aload_n 0, 1) := by decide +kernel
theorem dX7_copy_1 : decode cX7_copy 1 = .ok (.iconst 0, 1) := by decide +kernel
theorem dX7_copy_2 : decode cX7_copy 2 = .ok (.putfield 50, 3) := by decide +kernel
theorem dX7_copy_5 : decode cX7_copy 5 = .ok (.iload_n 1, 1) := by decide +kernel
theorem dX7_copy_6 : decode cX7_copy 6 = .ok (.invokestatic 64, 3) := by decide +kernel
theorem dX7_copy_9 : decode cX7_copy 9 = .ok (.ifCond .eq 10, 3) := by decide +kernel
theorem dX7_copy_12 : decode cX7_copy 12 = .ok (.iload_n 3, 1) := by decide +kernel
theorem dX7_copy_13 : decode cX7_copy 13 = .ok (.invokestatic 64, 3) := by decide +kernel
theorem dX7_copy_16 : decode cX7_copy 16 = .ok (.ifCond .ne 6, 3) := by decide +kernel
theorem dX7_copy_19 : decode cX7_copy 19 = .ok (.ldc 70, 2) := by decide +kernel
theorem dX7_copy_21 : decode cX7_copy 21 = .ok (.ireturn, 1) := by decide +kernel
theorem dX7_copy_22 : decode cX7_copy 22 = .ok (.aload_n 0, 1) := by decide +kernel
theorem dX7_copy_23 : decode cX7_copy 23 = .ok (.iconst 0, 1) := by decide +kernel
theorem dX7_copy_24 : decode cX7_copy 24 = .ok (.putfield 54, 3) := by decide +kernel
theorem dX7_copy_27 : decode cX7_copy 27 = .ok (.aload_n 0, 1) := by decide +kernel
theorem dX7_copy_28 : decode cX7_copy 28 = .ok (.getfield 7, 3) := by decide +kernel
theorem dX7_copy_31 : decode cX7_copy 31 = .ok (.iload_n 1, 1) := by decide +kernel
theorem dX7_copy_32 : decode cX7_copy 32 = .ok (.iaload, 1) := by decide +kernel
theorem dX7_copy_33 : decode cX7_copy 33 = .ok (.ifCond .lt 12, 3) := by decide +kernel
theorem dX7_copy_36 : decode cX7_copy 36 = .ok (.aload_n 0, 1) := by decide +kernel
theorem dX7_copy_37 : decode cX7_copy 37 = .ok (.getfield 7, 3) := by decide +kernel
theorem dX7_copy_40 : decode cX7_copy 40 = .ok (.iload_n 3, 1) := by decide +kernel
theorem dX7_copy_41 : decode cX7_copy 41 = .ok (.iaload, 1) := by decide +kernel
theorem dX7_copy_42 : decode cX7_copy 42 = .ok (.ifCond .ge 9, 3) := by decide +kernel
theorem dX7_copy_45 : decode cX7_copy 45 = .ok (.aload_n 0, 1) := by decide +kernel
theorem dX7_copy_46 : decode cX7_copy 46 = .ok (.iconst 1, 1) := by decide +kernel
theorem dX7_copy_47 : decode cX7_copy 47 = .ok (.invokevirtual 71, 3) := by decide +kernel
theorem dX7_copy_50 : decode cX7_copy 50 = .ok (.ireturn, 1) := by decide +kernel
theorem dX7_copy_51 : decode cX7_copy 51 = .ok (.aload_n 0, 1) := by decide +kernel
theorem dX7_copy_52 : decode cX7_copy 52 = .ok (.getfield 7, 3) := by decide +kernel
theorem dX7_copy_55 : decode cX7_copy 55 = .ok (.iload_n 1, 1) := by decide +kernel
theorem dX7_copy_56 : decode cX7_copy 56 = .ok (.iaload, 1) := by decide +kernel
theorem dX7_copy_57 : decode cX7_copy 57 = .ok (.aload_n 0, 1) := by decide +kernel
theorem dX7_copy_58 : decode cX7_copy 58 = .ok (.getfield 7, 3) := by decide +kernel
theorem dX7_copy_61 : decode cX7_copy 61 = .ok (.iload_n 3, 1) := by decide +kernel
theorem dX7_copy_62 : decode cX7_copy 62 = .ok (.iaload, 1) := by decide +kernel
theorem dX7_copy_63 : decode cX7_copy 63 = .ok (.if_icmp .eq 9, 3) := by decide +kernel
theorem dX7_copy_66 : decode cX7_copy 66 = .ok (.aload_n 0, 1) := by decide +kernel
theorem dX7_copy_67 : decode cX7_copy 67 = .ok (.iconst 5, 1) := by decide +kernel
theorem dX7_copy_68 : decode cX7_copy 68 = .ok (.invokevirtual 71, 3) := by decide +kernel
theorem dX7_copy_71 : decode cX7_copy 71 = .ok (.ireturn, 1) := by decide +kernel
theorem dX7_copy_72 : decode cX7_copy 72 = .ok (.iload_n 2, 1) := by decide +kernel
theorem dX7_copy_73 : decode cX7_copy 73 = .ok (.ifCond .lt 48, 3) := by decide +kernel
theorem dX7_copy_76 : decode cX7_copy 76 = .ok (.iload 4, 2) := by decide +kernel
theorem dX7_copy_78 : decode cX7_copy 78 = .ok (.ifCond .lt 43, 3) := by decide +kernel
theorem dX7_copy_81 : decode cX7_copy 81 = .ok (.iload 5, 2) := by decide +kernel
theorem dX7_copy_83 : decode cX7_copy 83 = .ok (.ifCond .lt 38, 3) := by decide +kernel
theorem dX7_copy_86 : decode cX7_copy 86 = .ok (.iload_n 2, 1) := by decide +kernel
theorem dX7_copy_87 : decode cX7_copy 87 = .ok (.i2l, 1) := by decide +kernel
theorem dX7_copy_88 : decode cX7_copy 88 = .ok (.iload 5, 2) := by decide +kernel
theorem dX7_copy_90 : decode cX7_copy 90 = .ok (.i2l, 1) := by decide +kernel
theorem dX7_copy_91 : decode cX7_copy 91 = .ok (.ladd, 1) := by decide +kernel
theorem dX7_copy_92 : decode cX7_copy 92 = .ok (.aload_n 0, 1) := by decide +kernel
theorem dX7_copy_93 : decode cX7_copy 93 = .ok (.getfield 13, 3) := by decide +kernel
theorem dX7_copy_96 : decode cX7_copy 96 = .ok (.iload_n 1, 1) := by decide +kernel
theorem dX7_copy_97 : decode cX7_copy 97 = .ok (.iaload, 1) := by decide +kernel
theorem dX7_copy_98 : decode cX7_copy 98 = .ok (.i2l, 1) := by decide +kernel
theorem dX7_copy_99 : decode cX7_copy 99 = .ok (.lcmp, 1) := by decide +kernel
theorem dX7_copy_100 : decode cX7_copy 100 = .ok (.ifCond .gt 21, 3) := by decide +kernel
theorem dX7_copy_103 : decode cX7_copy 103 = .ok (.iload 4, 2) := by decide +kernel
theorem dX7_copy_105 : decode cX7_copy 105 = .ok (.i2l, 1) := by decide +kernel
theorem dX7_copy_106 : decode cX7_copy 106 = .ok (.iload 5, 2) := by decide +kernel
theorem dX7_copy_108 : decode cX7_copy 108 = .ok (.i2l, 1) := by decide +kernel
theorem dX7_copy_109 : decode cX7_copy 109 = .ok (.ladd, 1) := by decide +kernel
theorem dX7_copy_110 : decode cX7_copy 110 = .ok (.aload_n 0, 1) := by decide +kernel
theorem dX7_copy_111 : decode cX7_copy 111 = .ok (.getfield 13, 3) := by decide +kernel
theorem dX7_copy_114 : decode cX7_copy 114 = .ok (.iload_n 3, 1) := by decide +kernel
theorem dX7_copy_115 : decode cX7_copy 115 = .ok (.iaload, 1) := by decide +kernel
theorem dX7_copy_116 : decode cX7_copy 116 = .ok (.i2l, 1) := by decide +kernel
theorem dX7_copy_117 : decode cX7_copy 117 = .ok (.lcmp, 1) := by decide +kernel
theorem dX7_copy_118 : decode cX7_copy 118 = .ok (.ifCond .le 9, 3) := by decide +kernel
theorem dX7_copy_121 : decode cX7_copy 121 = .ok (.aload_n 0, 1) := by decide +kernel
theorem dX7_copy_122 : decode cX7_copy 122 = .ok (.iconst 2, 1) := by decide +kernel
theorem dX7_copy_123 : decode cX7_copy 123 = .ok (.invokevirtual 71, 3) := by decide +kernel
theorem dX7_copy_126 : decode cX7_copy 126 = .ok (.ireturn, 1) := by decide +kernel
theorem dX7_copy_127 : decode cX7_copy 127 = .ok (.iload_n 2, 1) := by decide +kernel
theorem dX7_copy_128 : decode cX7_copy 128 = .ok (.iload 4, 2) := by decide +kernel
theorem dX7_copy_130 : decode cX7_copy 130 = .ok (.if_icmp .lt 7, 3) := by decide +kernel
theorem dX7_copy_133 : decode cX7_copy 133 = .ok (.iconst 1, 1) := by decide +kernel
theorem dX7_copy_134 : decode cX7_copy 134 = .ok (.goto 4, 3) := by decide +kernel
theorem dX7_copy_137 : decode cX7_copy 137 = .ok (.iconst 0, 1) := by decide +kernel
theorem dX7_copy_138 : decode cX7_copy 138 = .ok (.istore 6, 2) := by decide +kernel
theorem dX7_copy_140 : decode cX7_copy 140 = .ok (.iconst 0, 1) := by decide +kernel
theorem dX7_copy_141 : decode cX7_copy 141 = .ok (.istore 7, 2) := by decide +kernel
theorem dX7_copy_143 : decode cX7_copy 143 = .ok (.iload 7, 2) := by decide +kernel
theorem dX7_copy_145 : decode cX7_copy 145 = .ok (.iload 5, 2) := by decide +kernel
theorem dX7_copy_147 : decode cX7_copy 147 = .ok (.if_icmp .ge 57, 3) := by decide +kernel
theorem dX7_copy_150 : decode cX7_copy 150 = .ok (.iload 6, 2) := by decide +kernel
theorem dX7_copy_152 : decode cX7_copy 152 = .ok (.ifCond .eq 8, 3) := by decide +kernel
theorem dX7_copy_155 : decode cX7_copy 155 = .ok (.iload 7, 2) := by decide +kernel
theorem dX7_copy_157 : decode cX7_copy 157 = .ok (.goto 10, 3) := by decide +kernel
theorem dX7_copy_160 : decode cX7_copy 160 = .ok (.iload 5, 2) := by decide +kernel
theorem dX7_copy_162 : decode cX7_copy 162 = .ok (.iconst 1, 1) := by decide +kernel
theorem dX7_copy_163 : decode cX7_copy 163 = .ok (.isub, 1) := by decide +kernel
theorem dX7_copy_164 : decode cX7_copy 164 = .ok (.iload 7, 2) := by decide +kernel
theorem dX7_copy_166 : decode cX7_copy 166 = .ok (.isub, 1) := by decide +kernel
theorem dX7_copy_167 : decode cX7_copy 167 = .ok (.istore 8, 2) := by decide +kernel
theorem dX7_copy_169 : decode cX7_copy 169 = .ok (.aload_n 0, 1) := by decide +kernel
theorem dX7_copy_170 : decode cX7_copy 170 = .ok (.getfield 16, 3) := by decide +kernel
theorem dX7_copy_173 : decode cX7_copy 173 = .ok (.bipush 40, 2) := by decide +kernel
theorem dX7_copy_175 : decode cX7_copy 175 = .ok (.iload_n 3, 1) := by decide +kernel
theorem dX7_copy_176 : decode cX7_copy 176 = .ok (.imul, 1) := by decide +kernel
theorem dX7_copy_177 : decode cX7_copy 177 = .ok (.iload 4, 2) := by decide +kernel
theorem dX7_copy_179 : decode cX7_copy 179 = .ok (.iadd, 1) := by decide +kernel
theorem dX7_copy_180 : decode cX7_copy 180 = .ok (.iload 8, 2) := by decide +kernel
theorem dX7_copy_182 : decode cX7_copy 182 = .ok (.iadd, 1) := by decide +kernel
theorem dX7_copy_183 : decode cX7_copy 183 = .ok (.aload_n 0, 1) := by decide +kernel
theorem dX7_copy_184 : decode cX7_copy 184 = .ok (.getfield 16, 3) := by decide +kernel
theorem dX7_copy_187 : decode cX7_copy 187 = .ok (.bipush 40, 2) := by decide +kernel
theorem dX7_copy_189 : decode cX7_copy 189 = .ok (.iload_n 1, 1) := by decide +kernel
theorem dX7_copy_190 : decode cX7_copy 190 = .ok (.imul, 1) := by decide +kernel
theorem dX7_copy_191 : decode cX7_copy 191 = .ok (.iload_n 2, 1) := by decide +kernel
theorem dX7_copy_192 : decode cX7_copy 192 = .ok (.iadd, 1) := by decide +kernel
theorem dX7_copy_193 : decode cX7_copy 193 = .ok (.iload 8, 2) := by decide +kernel
theorem dX7_copy_195 : decode cX7_copy 195 = .ok (.iadd, 1) := by decide +kernel
theorem dX7_copy_196 : decode cX7_copy 196 = .ok (.iaload, 1) := by decide +kernel
theorem dX7_copy_197 : decode cX7_copy 197 = .ok (.iastore, 1) := by decide +kernel
theorem dX7_copy_198 : decode cX7_copy 198 = .ok (.iinc 7 1, 3) := by decide +kernel
theorem dX7_copy_201 : decode cX7_copy 201 = .ok (.goto (-58), 3) := by decide +kernel
theorem dX7_copy_204 : decode cX7_copy 204 = .ok (.iload 5, 2) := by decide +kernel
theorem dX7_copy_206 : decode cX7_copy 206 = .ok (.ireturn, 1) := by decide +kernel
theorem dX7_drop_0 : decode cX7_drop 0 = .ok (.aload_n 0, 1) := by decide +kernel
theorem dX7_drop_1 : decode cX7_drop 1 = .ok (.iconst 0, 1) := by decide +kernel
theorem dX7_drop_2 : decode cX7_drop 2 = .ok (.putfield 50, 3) := by decide +kernel
theorem dX7_drop_5 : decode cX7_drop 5 = .ok (.iload_n 1, 1) := by decide +kernel
theorem dX7_drop_6 : decode cX7_drop 6 = .ok (.invokestatic 64, 3) := by decide +kernel
theorem dX7_drop_9 : decode cX7_drop 9 = .ok (.ifCond .ne 6, 3) := by decide +kernel
theorem dX7_drop_12 : decode cX7_drop 12 = .ok (.ldc 70, 2) := by decide +kernel
theorem dX7_drop_14 : decode cX7_drop 14 = .ok (.ireturn, 1) := by decide +kernel
theorem dX7_drop_15 : decode cX7_drop 15 = .ok (.aload_n 0, 1) := by decide +kernel
theorem dX7_drop_16 : decode cX7_drop 16 = .ok (.iconst 0, 1) := by decide +kernel
theorem dX7_drop_17 : decode cX7_drop 17 = .ok (.putfield 54, 3) := by decide +kernel
theorem dX7_drop_20 : decode cX7_drop 20 = .ok (.aload_n 0, 1) := by decide +kernel
theorem dX7_drop_21 : decode cX7_drop 21 = .ok (.getfield 7, 3) := by decide +kernel
theorem dX7_drop_24 : decode cX7_drop 24 = .ok (.iload_n 1, 1) := by decide +kernel
theorem dX7_drop_25 : decode cX7_drop 25 = .ok (.iaload, 1) := by decide +kernel
theorem dX7_drop_26 : decode cX7_drop 26 = .ok (.ifCond .ge 9, 3) := by decide +kernel
theorem dX7_drop_29 : decode cX7_drop 29 = .ok (.aload_n 0, 1) := by decide +kernel
theorem dX7_drop_30 : decode cX7_drop 30 = .ok (.iconst 1, 1) := by decide +kernel
theorem dX7_drop_31 : decode cX7_drop 31 = .ok (.invokevirtual 71, 3) := by decide +kernel
theorem dX7_drop_34 : decode cX7_drop 34 = .ok (.ireturn, 1) := by decide +kernel
theorem dX7_drop_35 : decode cX7_drop 35 = .ok (.aload_n 0, 1) := by decide +kernel
theorem dX7_drop_36 : decode cX7_drop 36 = .ok (.getfield 7, 3) := by decide +kernel
theorem dX7_drop_39 : decode cX7_drop 39 = .ok (.iload_n 1, 1) := by decide +kernel
theorem dX7_drop_40 : decode cX7_drop 40 = .ok (.iconst (-1), 1) := by decide +kernel
theorem dX7_drop_41 : decode cX7_drop 41 = .ok (.iastore, 1) := by decide +kernel
theorem dX7_drop_42 : decode cX7_drop 42 = .ok (.aload_n 0, 1) := by decide +kernel
theorem dX7_drop_43 : decode cX7_drop 43 = .ok (.getfield 13, 3) := by decide +kernel
theorem dX7_drop_46 : decode cX7_drop 46 = .ok (.iload_n 1, 1) := by decide +kernel
theorem dX7_drop_47 : decode cX7_drop 47 = .ok (.iaload, 1) := by decide +kernel
theorem dX7_drop_48 : decode cX7_drop 48 = .ok (.ireturn, 1) := by decide +kernel
theorem dX7_feed_0 : decode cX7_feed 0 = .ok (.aload_n 0, 1) := by decide +kernel
theorem dX7_feed_1 : decode cX7_feed 1 = .ok (.iconst 0, 1) := by decide +kernel
theorem dX7_feed_2 : decode cX7_feed 2 = .ok (.putfield 50, 3) := by decide +kernel
theorem dX7_feed_5 : decode cX7_feed 5 = .ok (.iload_n 1, 1) := by decide +kernel
theorem dX7_feed_6 : decode cX7_feed 6 = .ok (.i2l, 1) := by decide +kernel
theorem dX7_feed_7 : decode cX7_feed 7 = .ok (.lconst 0, 1) := by decide +kernel
theorem dX7_feed_8 : decode cX7_feed 8 = .ok (.ldc2_w 75, 3) := by decide +kernel
theorem dX7_feed_11 : decode cX7_feed 11 = .ok (.invokestatic 60, 3) := by decide +kernel
theorem dX7_feed_14 : decode cX7_feed 14 = .ok (.ifCond .ne 6, 3) := by decide +kernel
theorem dX7_feed_17 : decode cX7_feed 17 = .ok (.ldc 70, 2) := by decide +kernel
theorem dX7_feed_19 : decode cX7_feed 19 = .ok (.ireturn, 1) := by decide +kernel
theorem dX7_feed_20 : decode cX7_feed 20 = .ok (.aload_n 0, 1) := by decide +kernel
theorem dX7_feed_21 : decode cX7_feed 21 = .ok (.getfield 77, 3) := by decide +kernel
theorem dX7_feed_24 : decode cX7_feed 24 = .ok (.bipush 100, 2) := by decide +kernel
theorem dX7_feed_26 : decode cX7_feed 26 = .ok (.if_icmp .ne 6, 3) := by decide +kernel
theorem dX7_feed_29 : decode cX7_feed 29 = .ok (.ldc 80, 2) := by decide +kernel
theorem dX7_feed_31 : decode cX7_feed 31 = .ok (.ireturn, 1) := by decide +kernel
theorem dX7_feed_32 : decode cX7_feed 32 = .ok (.aload_n 0, 1) := by decide +kernel
theorem dX7_feed_33 : decode cX7_feed 33 = .ok (.getfield 31, 3) := by decide +kernel
theorem dX7_feed_36 : decode cX7_feed 36 = .ok (.aload_n 0, 1) := by decide +kernel
theorem dX7_feed_37 : decode cX7_feed 37 = .ok (.getfield 77, 3) := by decide +kernel
theorem dX7_feed_40 : decode cX7_feed 40 = .ok (.iload_n 1, 1) := by decide +kernel
theorem dX7_feed_41 : decode cX7_feed 41 = .ok (.iastore, 1) := by decide +kernel
theorem dX7_feed_42 : decode cX7_feed 42 = .ok (.aload_n 0, 1) := by decide +kernel
theorem dX7_feed_43 : decode cX7_feed 43 = .ok (.dup, 1) := by decide +kernel
theorem dX7_feed_44 : decode cX7_feed 44 = .ok (.getfield 77, 3) := by decide +kernel
theorem dX7_feed_47 : decode cX7_feed 47 = .ok (.iconst 1, 1) := by decide +kernel
theorem dX7_feed_48 : decode cX7_feed 48 = .ok (.iadd, 1) := by decide +kernel
theorem dX7_feed_49 : decode cX7_feed 49 = .ok (.putfield 77, 3) := by decide +kernel
theorem dX7_feed_52 : decode cX7_feed 52 = .ok (.aload_n 0, 1) := by decide +kernel
theorem dX7_feed_53 : decode cX7_feed 53 = .ok (.getfield 77, 3) := by decide +kernel
theorem dX7_feed_56 : decode cX7_feed 56 = .ok (.ireturn, 1) := by decide +kernel
theorem dX7_bad_0 : decode cX7_bad 0 = .ok (.aload_n 0, 1) := by decide +kernel
theorem dX7_bad_1 : decode cX7_bad 1 = .ok (.getfield 81, 3) := by decide +kernel
theorem dX7_bad_4 : decode cX7_bad 4 = .ok (.ifCond .ne 16, 3) := by decide +kernel
theorem dX7_bad_7 : decode cX7_bad 7 = .ok (.aload_n 0, 1) := by decide +kernel
theorem dX7_bad_8 : decode cX7_bad 8 = .ok (.iload_n 1, 1) := by decide +kernel
theorem dX7_bad_9 : decode cX7_bad 9 = .ok (.putfield 81, 3) := by decide +kernel
theorem dX7_bad_12 : decode cX7_bad 12 = .ok (.aload_n 0, 1) := by decide +kernel
theorem dX7_bad_13 : decode cX7_bad 13 = .ok (.aload_n 0, 1) := by decide +kernel
theorem dX7_bad_14 : decode cX7_bad 14 = .ok (.getfield 84, 3) := by decide +kernel
theorem dX7_bad_17 : decode cX7_bad 17 = .ok (.putfield 87, 3) := by decide +kernel
theorem dX7_bad_20 : decode cX7_bad 20 = .ok (.return_, 1) := by decide +kernel
theorem dX7_nextToken_0 : decode cX7_nextToken 0 = .ok (.aload_n 0, 1) := by decide +kernel
theorem dX7_nextToken_1 : decode cX7_nextToken 1 = .ok (.aload_n 0, 1) := by decide +kernel
theorem dX7_nextToken_2 : decode cX7_nextToken 2 = .ok (.getfield 90, 3) := by decide +kernel
theorem dX7_nextToken_5 : decode cX7_nextToken 5 = .ok (.putfield 84, 3) := by decide +kernel
theorem dX7_nextToken_8 : decode cX7_nextToken 8 = .ok (.aload_n 0, 1) := by decide +kernel
theorem dX7_nextToken_9 : decode cX7_nextToken 9 = .ok (.aload_n 0, 1) := by decide +kernel
theorem dX7_nextToken_10 : decode cX7_nextToken 10 = .ok (.getfield 90, 3) := by decide +kernel
theorem dX7_nextToken_13 : decode cX7_nextToken 13 = .ok (.aload_n 0, 1) := by decide +kernel
theorem dX7_nextToken_14 : decode cX7_nextToken 14 = .ok (.getfield 77, 3) := by decide +kernel
theorem dX7_nextToken_17 : decode cX7_nextToken 17 = .ok (.if_icmp .ge 15, 3) := by decide +kernel
theorem dX7_nextToken_20 : decode cX7_nextToken 20 = .ok (.aload_n 0, 1) := by decide +kernel
theorem dX7_nextToken_21 : decode cX7_nextToken 21 = .ok (.getfield 31, 3) := by decide +kernel
theorem dX7_nextToken_24 : decode cX7_nextToken 24 = .ok (.aload_n 0, 1) := by decide +kernel
theorem dX7_nextToken_25 : decode cX7_nextToken 25 = .ok (.getfield 90, 3) := by decide +kernel
theorem dX7_nextToken_28 : decode cX7_nextToken 28 = .ok (.iaload, 1) := by decide +kernel
theorem dX7_nextToken_29 : decode cX7_nextToken 29 = .ok (.goto 5, 3) := by decide +kernel
theorem dX7_nextToken_32 : decode cX7_nextToken 32 = .ok (.ldc 93, 2) := by decide +kernel
theorem dX7_nextToken_34 : decode cX7_nextToken 34 = .ok (.putfield 94, 3) := by decide +kernel
theorem dX7_nextToken_37 : decode cX7_nextToken 37 = .ok (.aload_n 0, 1) := by decide +kernel
theorem dX7_nextToken_38 : decode cX7_nextToken 38 = .ok (.aload_n 0, 1) := by decide +kernel
theorem dX7_nextToken_39 : decode cX7_nextToken 39 = .ok (.getfield 90, 3) := by decide +kernel
theorem dX7_nextToken_42 : decode cX7_nextToken 42 = .ok (.aload_n 0, 1) := by decide +kernel
theorem dX7_nextToken_43 : decode cX7_nextToken 43 = .ok (.getfield 77, 3) := by decide +kernel
theorem dX7_nextToken_46 : decode cX7_nextToken 46 = .ok (.if_icmp .ne 7, 3) := by decide +kernel
theorem dX7_nextToken_49 : decode cX7_nextToken 49 = .ok (.iconst 1, 1) := by decide +kernel
theorem dX7_nextToken_50 : decode cX7_nextToken 50 = .ok (.goto 68, 3) := by decide +kernel
theorem dX7_nextToken_53 : decode cX7_nextToken 53 = .ok (.aload_n 0, 1) := by decide +kernel
theorem dX7_nextToken_54 : decode cX7_nextToken 54 = .ok (.getfield 94, 3) := by decide +kernel
theorem dX7_nextToken_57 : decode cX7_nextToken 57 = .ok (.i2l, 1) := by decide +kernel
theorem dX7_nextToken_58 : decode cX7_nextToken 58 = .ok (.ldc2_w 97, 3) := by decide +kernel
theorem dX7_nextToken_61 : decode cX7_nextToken 61 = .ok (.ldc2_w 99, 3) := by decide +kernel
theorem dX7_nextToken_64 : decode cX7_nextToken 64 = .ok (.invokestatic 60, 3) := by decide +kernel
theorem dX7_nextToken_67 : decode cX7_nextToken 67 = .ok (.ifCond .eq 7, 3) := by decide +kernel
theorem dX7_nextToken_70 : decode cX7_nextToken 70 = .ok (.iconst 2, 1) := by decide +kernel
theorem dX7_nextToken_71 : decode cX7_nextToken 71 = .ok (.goto 47, 3) := by decide +kernel
theorem dX7_nextToken_74 : decode cX7_nextToken 74 = .ok (.aload_n 0, 1) := by decide +kernel
theorem dX7_nextToken_75 : decode cX7_nextToken 75 = .ok (.getfield 94, 3) := by decide +kernel
theorem dX7_nextToken_78 : decode cX7_nextToken 78 = .ok (.i2l, 1) := by decide +kernel
theorem dX7_nextToken_79 : decode cX7_nextToken 79 = .ok (.ldc2_w 101, 3) := by decide +kernel
theorem dX7_nextToken_82 : decode cX7_nextToken 82 = .ok (.ldc2_w 103, 3) := by decide +kernel
theorem dX7_nextToken_85 : decode cX7_nextToken 85 = .ok (.invokestatic 60, 3) := by decide +kernel
theorem dX7_nextToken_88 : decode cX7_nextToken 88 = .ok (.ifCond .eq 7, 3) := by decide +kernel
theorem dX7_nextToken_91 : decode cX7_nextToken 91 = .ok (.iconst 3, 1) := by decide +kernel
theorem dX7_nextToken_92 : decode cX7_nextToken 92 = .ok (.goto 26, 3) := by decide +kernel
theorem dX7_nextToken_95 : decode cX7_nextToken 95 = .ok (.aload_n 0, 1) := by decide +kernel
theorem dX7_nextToken_96 : decode cX7_nextToken 96 = .ok (.getfield 94, 3) := by decide +kernel
theorem dX7_nextToken_99 : decode cX7_nextToken 99 = .ok (.bipush 44, 2) := by decide +kernel
theorem dX7_nextToken_101 : decode cX7_nextToken 101 = .ok (.if_icmp .eq 12, 3) := by decide +kernel
theorem dX7_nextToken_104 : decode cX7_nextToken 104 = .ok (.aload_n 0, 1) := by decide +kernel
theorem dX7_nextToken_105 : decode cX7_nextToken 105 = .ok (.getfield 94, 3) := by decide +kernel
theorem dX7_nextToken_108 : decode cX7_nextToken 108 = .ok (.bipush 59, 2) := by decide +kernel
theorem dX7_nextToken_110 : decode cX7_nextToken 110 = .ok (.if_icmp .ne 7, 3) := by decide +kernel
theorem dX7_nextToken_113 : decode cX7_nextToken 113 = .ok (.iconst 4, 1) := by decide +kernel
theorem dX7_nextToken_114 : decode cX7_nextToken 114 = .ok (.goto 4, 3) := by decide +kernel
theorem dX7_nextToken_117 : decode cX7_nextToken 117 = .ok (.iconst 0, 1) := by decide +kernel
theorem dX7_nextToken_118 : decode cX7_nextToken 118 = .ok (.putfield 105, 3) := by decide +kernel
theorem dX7_nextToken_121 : decode cX7_nextToken 121 = .ok (.aload_n 0, 1) := by decide +kernel
theorem dX7_nextToken_122 : decode cX7_nextToken 122 = .ok (.dup, 1) := by decide +kernel
theorem dX7_nextToken_123 : decode cX7_nextToken 123 = .ok (.getfield 90, 3) := by decide +kernel
theorem dX7_nextToken_126 : decode cX7_nextToken 126 = .ok (.aload_n 0, 1) := by decide +kernel
theorem dX7_nextToken_127 : decode cX7_nextToken 127 = .ok (.getfield 90, 3) := by decide +kernel
theorem dX7_nextToken_130 : decode cX7_nextToken 130 = .ok (.aload_n 0, 1) := by decide +kernel
theorem dX7_nextToken_131 : decode cX7_nextToken 131 = .ok (.getfield 77, 3) := by decide +kernel
theorem dX7_nextToken_134 : decode cX7_nextToken 134 = .ok (.if_icmp .ge 7, 3) := by decide +kernel
theorem dX7_nextToken_137 : decode cX7_nextToken 137 = .ok (.iconst 1, 1) := by decide +kernel
theorem dX7_nextToken_138 : decode cX7_nextToken 138 = .ok (.goto 4, 3) := by decide +kernel
theorem dX7_nextToken_141 : decode cX7_nextToken 141 = .ok (.iconst 0, 1) := by decide +kernel
theorem dX7_nextToken_142 : decode cX7_nextToken 142 = .ok (.iadd, 1) := by decide +kernel
theorem dX7_nextToken_143 : decode cX7_nextToken 143 = .ok (.putfield 90, 3) := by decide +kernel
theorem dX7_nextToken_146 : decode cX7_nextToken 146 = .ok (.aload_n 0, 1) := by decide +kernel
theorem dX7_nextToken_147 : decode cX7_nextToken 147 = .ok (.getfield 105, 3) := by decide +kernel
theorem dX7_nextToken_150 : decode cX7_nextToken 150 = .ok (.iconst 3, 1) := by decide +kernel
theorem dX7_nextToken_151 : decode cX7_nextToken 151 = .ok (.if_icmp .ne 126, 3) := by decide +kernel
theorem dX7_nextToken_154 : decode cX7_nextToken 154 = .ok (.aload_n 0, 1) := by decide +kernel
theorem dX7_nextToken_155 : decode cX7_nextToken 155 = .ok (.dup, 1) := by decide +kernel
theorem dX7_nextToken_156 : decode cX7_nextToken 156 = .ok (.getfield 94, 3) := by decide +kernel
theorem dX7_nextToken_159 : decode cX7_nextToken 159 = .ok (.bipush 48, 2) := by decide +kernel
theorem dX7_nextToken_161 : decode cX7_nextToken 161 = .ok (.isub, 1) := by decide +kernel
theorem dX7_nextToken_162 : decode cX7_nextToken 162 = .ok (.putfield 94, 3) := by decide +kernel
theorem dX7_nextToken_165 : decode cX7_nextToken 165 = .ok (.aload_n 0, 1) := by decide +kernel
theorem dX7_nextToken_166 : decode cX7_nextToken 166 = .ok (.getfield 90, 3) := by decide +kernel
theorem dX7_nextToken_169 : decode cX7_nextToken 169 = .ok (.aload_n 0, 1) := by decide +kernel
theorem dX7_nextToken_170 : decode cX7_nextToken 170 = .ok (.getfield 77, 3) := by decide +kernel
theorem dX7_nextToken_173 : decode cX7_nextToken 173 = .ok (.if_icmp .ge 82, 3) := by decide +kernel
theorem dX7_nextToken_176 : decode cX7_nextToken 176 = .ok (.aload_n 0, 1) := by decide +kernel
theorem dX7_nextToken_177 : decode cX7_nextToken 177 = .ok (.getfield 31, 3) := by decide +kernel
theorem dX7_nextToken_180 : decode cX7_nextToken 180 = .ok (.aload_n 0, 1) := by decide +kernel
theorem dX7_nextToken_181 : decode cX7_nextToken 181 = .ok (.getfield 90, 3) := by decide +kernel
theorem dX7_nextToken_184 : decode cX7_nextToken 184 = .ok (.iaload, 1) := by decide +kernel
theorem dX7_nextToken_185 : decode cX7_nextToken 185 = .ok (.i2l, 1) := by decide +kernel
theorem dX7_nextToken_186 : decode cX7_nextToken 186 = .ok (.ldc2_w 101, 3) := by decide +kernel
theorem dX7_nextToken_189 : decode cX7_nextToken 189 = .ok (.ldc2_w 103, 3) := by decide +kernel
theorem dX7_nextToken_192 : decode cX7_nextToken 192 = .ok (.invokestatic 60, 3) := by decide +kernel
theorem dX7_nextToken_195 : decode cX7_nextToken 195 = .ok (.ifCond .eq 60, 3) := by decide +kernel
theorem dX7_nextToken_198 : decode cX7_nextToken 198 = .ok (.aload_n 0, 1) := by decide +kernel
theorem dX7_nextToken_199 : decode cX7_nextToken 199 = .ok (.aload_n 0, 1) := by decide +kernel
theorem dX7_nextToken_200 : decode cX7_nextToken 200 = .ok (.getfield 90, 3) := by decide +kernel
theorem dX7_nextToken_203 : decode cX7_nextToken 203 = .ok (.aload_n 0, 1) := by decide +kernel
theorem dX7_nextToken_204 : decode cX7_nextToken 204 = .ok (.getfield 84, 3) := by decide +kernel
theorem dX7_nextToken_207 : decode cX7_nextToken 207 = .ok (.isub, 1) := by decide +kernel
theorem dX7_nextToken_208 : decode cX7_nextToken 208 = .ok (.iconst 2, 1) := by decide +kernel
theorem dX7_nextToken_209 : decode cX7_nextToken 209 = .ok (.if_icmp .ge 26, 3) := by decide +kernel
theorem dX7_nextToken_212 : decode cX7_nextToken 212 = .ok (.bipush 10, 2) := by decide +kernel
theorem dX7_nextToken_214 : decode cX7_nextToken 214 = .ok (.aload_n 0, 1) := by decide +kernel
theorem dX7_nextToken_215 : decode cX7_nextToken 215 = .ok (.getfield 94, 3) := by decide +kernel
theorem dX7_nextToken_218 : decode cX7_nextToken 218 = .ok (.imul, 1) := by decide +kernel
theorem dX7_nextToken_219 : decode cX7_nextToken 219 = .ok (.aload_n 0, 1) := by decide +kernel
theorem dX7_nextToken_220 : decode cX7_nextToken 220 = .ok (.getfield 31, 3) := by decide +kernel
theorem dX7_nextToken_223 : decode cX7_nextToken 223 = .ok (.aload_n 0, 1) := by decide +kernel
theorem dX7_nextToken_224 : decode cX7_nextToken 224 = .ok (.getfield 90, 3) := by decide +kernel
theorem dX7_nextToken_227 : decode cX7_nextToken 227 = .ok (.iaload, 1) := by decide +kernel
theorem dX7_nextToken_228 : decode cX7_nextToken 228 = .ok (.iadd, 1) := by decide +kernel
theorem dX7_nextToken_229 : decode cX7_nextToken 229 = .ok (.bipush 48, 2) := by decide +kernel
theorem dX7_nextToken_231 : decode cX7_nextToken 231 = .ok (.isub, 1) := by decide +kernel
theorem dX7_nextToken_232 : decode cX7_nextToken 232 = .ok (.goto 7, 3) := by decide +kernel
theorem dX7_nextToken_235 : decode cX7_nextToken 235 = .ok (.aload_n 0, 1) := by decide +kernel
theorem dX7_nextToken_236 : decode cX7_nextToken 236 = .ok (.getfield 94, 3) := by decide +kernel
theorem dX7_nextToken_239 : decode cX7_nextToken 239 = .ok (.putfield 94, 3) := by decide +kernel
theorem dX7_nextToken_242 : decode cX7_nextToken 242 = .ok (.aload_n 0, 1) := by decide +kernel
theorem dX7_nextToken_243 : decode cX7_nextToken 243 = .ok (.dup, 1) := by decide +kernel
theorem dX7_nextToken_244 : decode cX7_nextToken 244 = .ok (.getfield 90, 3) := by decide +kernel
theorem dX7_nextToken_247 : decode cX7_nextToken 247 = .ok (.iconst 1, 1) := by decide +kernel
theorem dX7_nextToken_248 : decode cX7_nextToken 248 = .ok (.iadd, 1) := by decide +kernel
theorem dX7_nextToken_249 : decode cX7_nextToken 249 = .ok (.putfield 90, 3) := by decide +kernel
theorem dX7_nextToken_252 : decode cX7_nextToken 252 = .ok (.goto (-87), 3) := by decide +kernel
theorem dX7_nextToken_255 : decode cX7_nextToken 255 = .ok (.aload_n 0, 1) := by decide +kernel
theorem dX7_nextToken_256 : decode cX7_nextToken 256 = .ok (.aload_n 0, 1) := by decide +kernel
theorem dX7_nextToken_257 : decode cX7_nextToken 257 = .ok (.getfield 90, 3) := by decide +kernel
theorem dX7_nextToken_260 : decode cX7_nextToken 260 = .ok (.aload_n 0, 1) := by decide +kernel
theorem dX7_nextToken_261 : decode cX7_nextToken 261 = .ok (.getfield 84, 3) := by decide +kernel
theorem dX7_nextToken_264 : decode cX7_nextToken 264 = .ok (.isub, 1) := by decide +kernel
theorem dX7_nextToken_265 : decode cX7_nextToken 265 = .ok (.iconst 2, 1) := by decide +kernel
theorem dX7_nextToken_266 : decode cX7_nextToken 266 = .ok (.if_icmp .le 7, 3) := by decide +kernel
theorem dX7_nextToken_269 : decode cX7_nextToken 269 = .ok (.iconst 0, 1) := by decide +kernel
theorem dX7_nextToken_270 : decode cX7_nextToken 270 = .ok (.goto 4, 3) := by decide +kernel
theorem dX7_nextToken_273 : decode cX7_nextToken 273 = .ok (.iconst 3, 1) := by decide +kernel
theorem dX7_nextToken_274 : decode cX7_nextToken 274 = .ok (.putfield 105, 3) := by decide +kernel
theorem dX7_nextToken_277 : decode cX7_nextToken 277 = .ok (.return_, 1) := by decide +kernel
theorem dX7_must_0 : decode cX7_must 0 = .ok (.iload_n 1, 1) := by decide +kernel
theorem dX7_must_1 : decode cX7_must 1 = .ok (.ifCond .ne 8, 3) := by decide +kernel
theorem dX7_must_4 : decode cX7_must 4 = .ok (.aload_n 0, 1) := by decide +kernel
theorem dX7_must_5 : decode cX7_must 5 = .ok (.iconst 1, 1) := by decide +kernel
theorem dX7_must_6 : decode cX7_must 6 = .ok (.invokevirtual 108, 3) := by decide +kernel
theorem dX7_must_9 : decode cX7_must 9 = .ok (.aload_n 0, 1) := by decide +kernel
theorem dX7_must_10 : decode cX7_must 10 = .ok (.getfield 81, 3) := by decide +kernel
theorem dX7_must_13 : decode cX7_must 13 = .ok (.ifCond .ne 7, 3) := by decide +kernel
theorem dX7_must_16 : decode cX7_must 16 = .ok (.aload_n 0, 1) := by decide +kernel
theorem dX7_must_17 : decode cX7_must 17 = .ok (.invokevirtual 112, 3) := by decide +kernel
theorem dX7_must_20 : decode cX7_must 20 = .ok (.return_, 1) := by decide +kernel
theorem dX7_isLetter_0 : decode cX7_isLetter 0 = .ok (.aload_n 0, 1) := by decide +kernel
theorem dX7_isLetter_1 : decode cX7_isLetter 1 = .ok (.getfield 81, 3) := by decide +kernel
theorem dX7_isLetter_4 : decode cX7_isLetter 4 = .ok (.ifCond .ne 23, 3) := by decide +kernel
theorem dX7_isLetter_7 : decode cX7_isLetter 7 = .ok (.aload_n 0, 1) := by decide +kernel
theorem dX7_isLetter_8 : decode cX7_isLetter 8 = .ok (.getfield 105, 3) := by decide +kernel
theorem dX7_isLetter_11 : decode cX7_isLetter 11 = .ok (.iconst 2, 1) := by decide +kernel
theorem dX7_isLetter_12 : decode cX7_isLetter 12 = .ok (.if_icmp .ne 15, 3) := by decide +kernel
theorem dX7_isLetter_15 : decode cX7_isLetter 15 = .ok (.aload_n 0, 1) := by decide +kernel
theorem dX7_isLetter_16 : decode cX7_isLetter 16 = .ok (.getfield 94, 3) := by decide +kernel
theorem dX7_isLetter_19 : decode cX7_isLetter 19 = .ok (.iload_n 1, 1) := by decide +kernel
theorem dX7_isLetter_20 : decode cX7_isLetter 20 = .ok (.if_icmp .ne 7, 3) := by decide +kernel
theorem dX7_isLetter_23 : decode cX7_isLetter 23 = .ok (.iconst 1, 1) := by decide +kernel
theorem dX7_isLetter_24 : decode cX7_isLetter 24 = .ok (.goto 4, 3) := by decide +kernel
theorem dX7_isLetter_27 : decode cX7_isLetter 27 = .ok (.iconst 0, 1) := by decide +kernel
theorem dX7_isLetter_28 : decode cX7_isLetter 28 = .ok (.ireturn, 1) := by decide +kernel
theorem dX7_number_0 : decode cX7_number 0 = .ok (.aload_n 0, 1) := by decide +kernel
theorem dX7_number_1 : decode cX7_number 1 = .ok (.getfield 81, 3) := by decide +kernel
theorem dX7_number_4 : decode cX7_number 4 = .ok (.ifCond .ne 16, 3) := by decide +kernel
theorem dX7_number_7 : decode cX7_number 7 = .ok (.aload_n 0, 1) := by decide +kernel
theorem dX7_number_8 : decode cX7_number 8 = .ok (.getfield 105, 3) := by decide +kernel
theorem dX7_number_11 : decode cX7_number 11 = .ok (.iconst 3, 1) := by decide +kernel
theorem dX7_number_12 : decode cX7_number 12 = .ok (.if_icmp .eq 8, 3) := by decide +kernel
theorem dX7_number_15 : decode cX7_number 15 = .ok (.aload_n 0, 1) := by decide +kernel
theorem dX7_number_16 : decode cX7_number 16 = .ok (.iconst 1, 1) := by decide +kernel
theorem dX7_number_17 : decode cX7_number 17 = .ok (.invokevirtual 108, 3) := by decide +kernel
theorem dX7_number_20 : decode cX7_number 20 = .ok (.aload_n 0, 1) := by decide +kernel
theorem dX7_number_21 : decode cX7_number 21 = .ok (.getfield 81, 3) := by decide +kernel
theorem dX7_number_24 : decode cX7_number 24 = .ok (.ifCond .ne 23, 3) := by decide +kernel
theorem dX7_number_27 : decode cX7_number 27 = .ok (.aload_n 0, 1) := by decide +kernel
theorem dX7_number_28 : decode cX7_number 28 = .ok (.getfield 94, 3) := by decide +kernel
theorem dX7_number_31 : decode cX7_number 31 = .ok (.i2l, 1) := by decide +kernel
theorem dX7_number_32 : decode cX7_number 32 = .ok (.iload_n 1, 1) := by decide +kernel
theorem dX7_number_33 : decode cX7_number 33 = .ok (.i2l, 1) := by decide +kernel
theorem dX7_number_34 : decode cX7_number 34 = .ok (.iload_n 2, 1) := by decide +kernel
theorem dX7_number_35 : decode cX7_number 35 = .ok (.i2l, 1) := by decide +kernel
theorem dX7_number_36 : decode cX7_number 36 = .ok (.invokestatic 60, 3) := by decide +kernel
theorem dX7_number_39 : decode cX7_number 39 = .ok (.ifCond .ne 8, 3) := by decide +kernel
theorem dX7_number_42 : decode cX7_number 42 = .ok (.aload_n 0, 1) := by decide +kernel
theorem dX7_number_43 : decode cX7_number 43 = .ok (.iconst 2, 1) := by decide +kernel
theorem dX7_number_44 : decode cX7_number 44 = .ok (.invokevirtual 108, 3) := by decide +kernel
theorem dX7_number_47 : decode cX7_number 47 = .ok (.aload_n 0, 1) := by decide +kernel
theorem dX7_number_48 : decode cX7_number 48 = .ok (.getfield 81, 3) := by decide +kernel
theorem dX7_number_51 : decode cX7_number 51 = .ok (.ifCond .ne 10, 3) := by decide +kernel
theorem dX7_number_54 : decode cX7_number 54 = .ok (.aload_n 0, 1) := by decide +kernel
theorem dX7_number_55 : decode cX7_number 55 = .ok (.getfield 94, 3) := by decide +kernel
theorem dX7_number_58 : decode cX7_number 58 = .ok (.goto 4, 3) := by decide +kernel
theorem dX7_number_61 : decode cX7_number 61 = .ok (.iload_n 1, 1) := by decide +kernel
theorem dX7_number_62 : decode cX7_number 62 = .ok (.istore_n 3, 1) := by decide +kernel
theorem dX7_number_63 : decode cX7_number 63 = .ok (.aload_n 0, 1) := by decide +kernel
theorem dX7_number_64 : decode cX7_number 64 = .ok (.iconst 1, 1) := by decide +kernel
theorem dX7_number_65 : decode cX7_number 65 = .ok (.invokevirtual 115, 3) := by decide +kernel
theorem dX7_number_68 : decode cX7_number 68 = .ok (.iload_n 3, 1) := by decide +kernel
theorem dX7_number_69 : decode cX7_number 69 = .ok (.ireturn, 1) := by decide +kernel
theorem dX7_mustSign_0 : decode cX7_mustSign 0 = .ok (.aload_n 0, 1) := by decide +kernel
theorem dX7_mustSign_1 : decode cX7_mustSign 1 = .ok (.aload_n 0, 1) := by decide +kernel
theorem dX7_mustSign_2 : decode cX7_mustSign 2 = .ok (.getfield 105, 3) := by decide +kernel
theorem dX7_mustSign_5 : decode cX7_mustSign 5 = .ok (.iconst 4, 1) := by decide +kernel
theorem dX7_mustSign_6 : decode cX7_mustSign 6 = .ok (.if_icmp .ne 15, 3) := by decide +kernel
theorem dX7_mustSign_9 : decode cX7_mustSign 9 = .ok (.aload_n 0, 1) := by decide +kernel
theorem dX7_mustSign_10 : decode cX7_mustSign 10 = .ok (.getfield 94, 3) := by decide +kernel
theorem dX7_mustSign_13 : decode cX7_mustSign 13 = .ok (.iload_n 1, 1) := by decide +kernel
theorem dX7_mustSign_14 : decode cX7_mustSign 14 = .ok (.if_icmp .ne 7, 3) := by decide +kernel
theorem dX7_mustSign_17 : decode cX7_mustSign 17 = .ok (.iconst 1, 1) := by decide +kernel
theorem dX7_mustSign_18 : decode cX7_mustSign 18 = .ok (.goto 4, 3) := by decide +kernel
theorem dX7_mustSign_21 : decode cX7_mustSign 21 = .ok (.iconst 0, 1) := by decide +kernel
theorem dX7_mustSign_22 : decode cX7_mustSign 22 = .ok (.invokevirtual 115, 3) := by decide +kernel
theorem dX7_mustSign_25 : decode cX7_mustSign 25 = .ok (.return_, 1) := by decide +kernel
theorem dX7_begin_0 : decode cX7_begin 0 = .ok (.aload_n 0, 1) := by decide +kernel
theorem dX7_begin_1 : decode cX7_begin 1 = .ok (.iconst 0, 1) := by decide +kernel
theorem dX7_begin_2 : decode cX7_begin 2 = .ok (.putfield 90, 3) := by decide +kernel
theorem dX7_begin_5 : decode cX7_begin 5 = .ok (.aload_n 0, 1) := by decide +kernel
theorem dX7_begin_6 : decode cX7_begin 6 = .ok (.iconst 0, 1) := by decide +kernel
theorem dX7_begin_7 : decode cX7_begin 7 = .ok (.putfield 81, 3) := by decide +kernel
theorem dX7_begin_10 : decode cX7_begin 10 = .ok (.aload_n 0, 1) := by decide +kernel
theorem dX7_begin_11 : decode cX7_begin 11 = .ok (.invokevirtual 112, 3) := by decide +kernel
theorem dX7_begin_14 : decode cX7_begin 14 = .ok (.return_, 1) := by decide +kernel
theorem dX7_failed_0 : decode cX7_failed 0 = .ok (.aload_n 0, 1) := by decide +kernel
theorem dX7_failed_1 : decode cX7_failed 1 = .ok (.getfield 81, 3) := by decide +kernel
theorem dX7_failed_4 : decode cX7_failed 4 = .ok (.ifCond .ne 16, 3) := by decide +kernel
theorem dX7_failed_7 : decode cX7_failed 7 = .ok (.aload_n 0, 1) := by decide +kernel
theorem dX7_failed_8 : decode cX7_failed 8 = .ok (.getfield 105, 3) := by decide +kernel
theorem dX7_failed_11 : decode cX7_failed 11 = .ok (.iconst 1, 1) := by decide +kernel
theorem dX7_failed_12 : decode cX7_failed 12 = .ok (.if_icmp .eq 8, 3) := by decide +kernel
theorem dX7_failed_15 : decode cX7_failed 15 = .ok (.aload_n 0, 1) := by decide +kernel
theorem dX7_failed_16 : decode cX7_failed 16 = .ok (.iconst 1, 1) := by decide +kernel
theorem dX7_failed_17 : decode cX7_failed 17 = .ok (.invokevirtual 108, 3) := by decide +kernel
theorem dX7_failed_20 : decode cX7_failed 20 = .ok (.aload_n 0, 1) := by decide +kernel
theorem dX7_failed_21 : decode cX7_failed 21 = .ok (.iconst 0, 1) := by decide +kernel
theorem dX7_failed_22 : decode cX7_failed 22 = .ok (.putfield 77, 3) := by decide +kernel
theorem dX7_failed_25 : decode cX7_failed 25 = .ok (.aload_n 0, 1) := by decide +kernel
theorem dX7_failed_26 : decode cX7_failed 26 = .ok (.aload_n 0, 1) := by decide +kernel
theorem dX7_failed_27 : decode cX7_failed 27 = .ok (.getfield 81, 3) := by decide +kernel
theorem dX7_failed_30 : decode cX7_failed 30 = .ok (.ifCond .le 10, 3) := by decide +kernel
theorem dX7_failed_33 : decode cX7_failed 33 = .ok (.aload_n 0, 1) := by decide +kernel
theorem dX7_failed_34 : decode cX7_failed 34 = .ok (.getfield 81, 3) := by decide +kernel
theorem dX7_failed_37 : decode cX7_failed 37 = .ok (.goto 7, 3) := by decide +kernel
theorem dX7_failed_40 : decode cX7_failed 40 = .ok (.aload_n 0, 1) := by decide +kernel
theorem dX7_failed_41 : decode cX7_failed 41 = .ok (.getfield 119, 3) := by decide +kernel
theorem dX7_failed_44 : decode cX7_failed 44 = .ok (.putfield 119, 3) := by decide +kernel
theorem dX7_failed_47 : decode cX7_failed 47 = .ok (.aload_n 0, 1) := by decide +kernel
theorem dX7_failed_48 : decode cX7_failed 48 = .ok (.getfield 81, 3) := by decide +kernel
theorem dX7_failed_51 : decode cX7_failed 51 = .ok (.ifCond .le 7, 3) := by decide +kernel
theorem dX7_failed_54 : decode cX7_failed 54 = .ok (.iconst 1, 1) := by decide +kernel
theorem dX7_failed_55 : decode cX7_failed 55 = .ok (.goto 4, 3) := by decide +kernel
theorem dX7_failed_58 : decode cX7_failed 58 = .ok (.iconst 0, 1) := by decide +kernel
theorem dX7_failed_59 : decode cX7_failed 59 = .ok (.ireturn, 1) := by decide +kernel
theorem dX7_fault_0 : decode cX7_fault 0 = .ok (.aload_n 0, 1) := by decide +kernel
theorem dX7_fault_1 : decode cX7_fault 1 = .ok (.iconst 0, 1) := by decide +kernel
theorem dX7_fault_2 : decode cX7_fault 2 = .ok (.putfield 50, 3) := by decide +kernel
theorem dX7_fault_5 : decode cX7_fault 5 = .ok (.aload_n 0, 1) := by decide +kernel
theorem dX7_fault_6 : decode cX7_fault 6 = .ok (.getfield 119, 3) := by decide +kernel
theorem dX7_fault_9 : decode cX7_fault 9 = .ok (.ireturn, 1) := by decide +kernel
theorem dX7_kindBy_0 : decode cX7_kindBy 0 = .ok (.iload_n 0, 1) := by decide +kernel
theorem dX7_kindBy_1 : decode cX7_kindBy 1 = .ok (.bipush 115, 2) := by decide +kernel
theorem dX7_kindBy_3 : decode cX7_kindBy 3 = .ok (.if_icmp .ne 7, 3) := by decide +kernel
theorem dX7_kindBy_6 : decode cX7_kindBy 6 = .ok (.iconst 1, 1) := by decide +kernel
theorem dX7_kindBy_7 : decode cX7_kindBy 7 = .ok (.goto 45, 3) := by decide +kernel
theorem dX7_kindBy_10 : decode cX7_kindBy 10 = .ok (.iload_n 0, 1) := by decide +kernel
theorem dX7_kindBy_11 : decode cX7_kindBy 11 = .ok (.bipush 110, 2) := by decide +kernel
theorem dX7_kindBy_13 : decode cX7_kindBy 13 = .ok (.if_icmp .ne 7, 3) := by decide +kernel
theorem dX7_kindBy_16 : decode cX7_kindBy 16 = .ok (.iconst 2, 1) := by decide +kernel
theorem dX7_kindBy_17 : decode cX7_kindBy 17 = .ok (.goto 35, 3) := by decide +kernel
theorem dX7_kindBy_20 : decode cX7_kindBy 20 = .ok (.iload_n 0, 1) := by decide +kernel
theorem dX7_kindBy_21 : decode cX7_kindBy 21 = .ok (.bipush 97, 2) := by decide +kernel
theorem dX7_kindBy_23 : decode cX7_kindBy 23 = .ok (.if_icmp .ne 7, 3) := by decide +kernel
theorem dX7_kindBy_26 : decode cX7_kindBy 26 = .ok (.iconst 3, 1) := by decide +kernel
theorem dX7_kindBy_27 : decode cX7_kindBy 27 = .ok (.goto 25, 3) := by decide +kernel
theorem dX7_kindBy_30 : decode cX7_kindBy 30 = .ok (.iload_n 0, 1) := by decide +kernel
theorem dX7_kindBy_31 : decode cX7_kindBy 31 = .ok (.bipush 98, 2) := by decide +kernel
theorem dX7_kindBy_33 : decode cX7_kindBy 33 = .ok (.if_icmp .ne 7, 3) := by decide +kernel
theorem dX7_kindBy_36 : decode cX7_kindBy 36 = .ok (.iconst 4, 1) := by decide +kernel
theorem dX7_kindBy_37 : decode cX7_kindBy 37 = .ok (.goto 15, 3) := by decide +kernel
theorem dX7_kindBy_40 : decode cX7_kindBy 40 = .ok (.iload_n 0, 1) := by decide +kernel
theorem dX7_kindBy_41 : decode cX7_kindBy 41 = .ok (.bipush 100, 2) := by decide +kernel
theorem dX7_kindBy_43 : decode cX7_kindBy 43 = .ok (.if_icmp .ne 7, 3) := by decide +kernel
theorem dX7_kindBy_46 : decode cX7_kindBy 46 = .ok (.iconst 5, 1) := by decide +kernel
theorem dX7_kindBy_47 : decode cX7_kindBy 47 = .ok (.goto 5, 3) := by decide +kernel
theorem dX7_kindBy_50 : decode cX7_kindBy 50 = .ok (.ldc 93, 2) := by decide +kernel
theorem dX7_kindBy_52 : decode cX7_kindBy 52 = .ok (.ireturn, 1) := by decide +kernel
theorem dX7_isSort_0 : decode cX7_isSort 0 = .ok (.aload_n 0, 1) := by decide +kernel
theorem dX7_isSort_1 : decode cX7_isSort 1 = .ok (.getfield 81, 3) := by decide +kernel
theorem dX7_isSort_4 : decode cX7_isSort 4 = .ok (.ifCond .ne 27, 3) := by decide +kernel
theorem dX7_isSort_7 : decode cX7_isSort 7 = .ok (.aload_n 0, 1) := by decide +kernel
theorem dX7_isSort_8 : decode cX7_isSort 8 = .ok (.getfield 105, 3) := by decide +kernel
theorem dX7_isSort_11 : decode cX7_isSort 11 = .ok (.iconst 2, 1) := by decide +kernel
theorem dX7_isSort_12 : decode cX7_isSort 12 = .ok (.if_icmp .ne 19, 3) := by decide +kernel
theorem dX7_isSort_15 : decode cX7_isSort 15 = .ok (.aload_n 0, 1) := by decide +kernel
theorem dX7_isSort_16 : decode cX7_isSort 16 = .ok (.getfield 94, 3) := by decide +kernel
theorem dX7_isSort_19 : decode cX7_isSort 19 = .ok (.invokestatic 122, 3) := by decide +kernel
theorem dX7_isSort_22 : decode cX7_isSort 22 = .ok (.ldc 93, 2) := by decide +kernel
theorem dX7_isSort_24 : decode cX7_isSort 24 = .ok (.if_icmp .eq 7, 3) := by decide +kernel
theorem dX7_isSort_27 : decode cX7_isSort 27 = .ok (.iconst 1, 1) := by decide +kernel
theorem dX7_isSort_28 : decode cX7_isSort 28 = .ok (.goto 4, 3) := by decide +kernel
theorem dX7_isSort_31 : decode cX7_isSort 31 = .ok (.iconst 0, 1) := by decide +kernel
theorem dX7_isSort_32 : decode cX7_isSort 32 = .ok (.ireturn, 1) := by decide +kernel
theorem dX7_readMan_0 : decode cX7_readMan 0 = .ok (.aload_n 0, 1) := by decide +kernel
theorem dX7_readMan_1 : decode cX7_readMan 1 = .ok (.getfield 94, 3) := by decide +kernel
theorem dX7_readMan_4 : decode cX7_readMan 4 = .ok (.invokestatic 122, 3) := by decide +kernel
theorem dX7_readMan_7 : decode cX7_readMan 7 = .ok (.istore_n 1, 1) := by decide +kernel
theorem dX7_readMan_8 : decode cX7_readMan 8 = .ok (.aload_n 0, 1) := by decide +kernel
theorem dX7_readMan_9 : decode cX7_readMan 9 = .ok (.getfield 22, 3) := by decide +kernel
theorem dX7_readMan_12 : decode cX7_readMan 12 = .ok (.iconst 3, 1) := by decide +kernel
theorem dX7_readMan_13 : decode cX7_readMan 13 = .ok (.iaload, 1) := by decide +kernel
theorem dX7_readMan_14 : decode cX7_readMan 14 = .ok (.bipush 7, 2) := by decide +kernel
theorem dX7_readMan_16 : decode cX7_readMan 16 = .ok (.if_icmp .ne 8, 3) := by decide +kernel
theorem dX7_readMan_19 : decode cX7_readMan 19 = .ok (.aload_n 0, 1) := by decide +kernel
theorem dX7_readMan_20 : decode cX7_readMan 20 = .ok (.iconst 3, 1) := by decide +kernel
theorem dX7_readMan_21 : decode cX7_readMan 21 = .ok (.invokevirtual 108, 3) := by decide +kernel
theorem dX7_readMan_24 : decode cX7_readMan 24 = .ok (.aload_n 0, 1) := by decide +kernel
theorem dX7_readMan_25 : decode cX7_readMan 25 = .ok (.iconst 1, 1) := by decide +kernel
theorem dX7_readMan_26 : decode cX7_readMan 26 = .ok (.invokevirtual 115, 3) := by decide +kernel
theorem dX7_readMan_29 : decode cX7_readMan 29 = .ok (.aload_n 0, 1) := by decide +kernel
theorem dX7_readMan_30 : decode cX7_readMan 30 = .ok (.iconst 0, 1) := by decide +kernel
theorem dX7_readMan_31 : decode cX7_readMan 31 = .ok (.bipush 23, 2) := by decide +kernel
theorem dX7_readMan_33 : decode cX7_readMan 33 = .ok (.invokevirtual 125, 3) := by decide +kernel
theorem dX7_readMan_36 : decode cX7_readMan 36 = .ok (.istore_n 2, 1) := by decide +kernel
theorem dX7_readMan_37 : decode cX7_readMan 37 = .ok (.aload_n 0, 1) := by decide +kernel
theorem dX7_readMan_38 : decode cX7_readMan 38 = .ok (.bipush 44, 2) := by decide +kernel
theorem dX7_readMan_40 : decode cX7_readMan 40 = .ok (.invokevirtual 129, 3) := by decide +kernel
theorem dX7_readMan_43 : decode cX7_readMan 43 = .ok (.aload_n 0, 1) := by decide +kernel
theorem dX7_readMan_44 : decode cX7_readMan 44 = .ok (.iconst 1, 1) := by decide +kernel
theorem dX7_readMan_45 : decode cX7_readMan 45 = .ok (.bipush 9, 2) := by decide +kernel
theorem dX7_readMan_47 : decode cX7_readMan 47 = .ok (.invokevirtual 125, 3) := by decide +kernel
theorem dX7_readMan_50 : decode cX7_readMan 50 = .ok (.istore_n 3, 1) := by decide +kernel
theorem dX7_readMan_51 : decode cX7_readMan 51 = .ok (.aload_n 0, 1) := by decide +kernel
theorem dX7_readMan_52 : decode cX7_readMan 52 = .ok (.bipush 59, 2) := by decide +kernel
theorem dX7_readMan_54 : decode cX7_readMan 54 = .ok (.invokevirtual 129, 3) := by decide +kernel
theorem dX7_readMan_57 : decode cX7_readMan 57 = .ok (.aload_n 0, 1) := by decide +kernel
theorem dX7_readMan_58 : decode cX7_readMan 58 = .ok (.getfield 81, 3) := by decide +kernel
theorem dX7_readMan_61 : decode cX7_readMan 61 = .ok (.ifCond .ne 74, 3) := by decide +kernel
theorem dX7_readMan_64 : decode cX7_readMan 64 = .ok (.bipush 15, 2) := by decide +kernel
theorem dX7_readMan_66 : decode cX7_readMan 66 = .ok (.iconst 5, 1) := by decide +kernel
theorem dX7_readMan_67 : decode cX7_readMan 67 = .ok (.aload_n 0, 1) := by decide +kernel
theorem dX7_readMan_68 : decode cX7_readMan 68 = .ok (.getfield 22, 3) := by decide +kernel
theorem dX7_readMan_71 : decode cX7_readMan 71 = .ok (.iconst 3, 1) := by decide +kernel
theorem dX7_readMan_72 : decode cX7_readMan 72 = .ok (.iaload, 1) := by decide +kernel
theorem dX7_readMan_73 : decode cX7_readMan 73 = .ok (.imul, 1) := by decide +kernel
theorem dX7_readMan_74 : decode cX7_readMan 74 = .ok (.iadd, 1) := by decide +kernel
theorem dX7_readMan_75 : decode cX7_readMan 75 = .ok (.istore 4, 2) := by decide +kernel
theorem dX7_readMan_77 : decode cX7_readMan 77 = .ok (.aload_n 0, 1) := by decide +kernel
theorem dX7_readMan_78 : decode cX7_readMan 78 = .ok (.getfield 22, 3) := by decide +kernel
theorem dX7_readMan_81 : decode cX7_readMan 81 = .ok (.iload 4, 2) := by decide +kernel
theorem dX7_readMan_83 : decode cX7_readMan 83 = .ok (.iload_n 1, 1) := by decide +kernel
theorem dX7_readMan_84 : decode cX7_readMan 84 = .ok (.iastore, 1) := by decide +kernel
theorem dX7_readMan_85 : decode cX7_readMan 85 = .ok (.aload_n 0, 1) := by decide +kernel
theorem dX7_readMan_86 : decode cX7_readMan 86 = .ok (.getfield 22, 3) := by decide +kernel
theorem dX7_readMan_89 : decode cX7_readMan 89 = .ok (.iload 4, 2) := by decide +kernel
theorem dX7_readMan_91 : decode cX7_readMan 91 = .ok (.iconst 1, 1) := by decide +kernel
theorem dX7_readMan_92 : decode cX7_readMan 92 = .ok (.iadd, 1) := by decide +kernel
theorem dX7_readMan_93 : decode cX7_readMan 93 = .ok (.iload_n 2, 1) := by decide +kernel
theorem dX7_readMan_94 : decode cX7_readMan 94 = .ok (.iastore, 1) := by decide +kernel
theorem dX7_readMan_95 : decode cX7_readMan 95 = .ok (.aload_n 0, 1) := by decide +kernel
theorem dX7_readMan_96 : decode cX7_readMan 96 = .ok (.getfield 22, 3) := by decide +kernel
theorem dX7_readMan_99 : decode cX7_readMan 99 = .ok (.iload 4, 2) := by decide +kernel
theorem dX7_readMan_101 : decode cX7_readMan 101 = .ok (.iconst 2, 1) := by decide +kernel
theorem dX7_readMan_102 : decode cX7_readMan 102 = .ok (.iadd, 1) := by decide +kernel
theorem dX7_readMan_103 : decode cX7_readMan 103 = .ok (.iload_n 3, 1) := by decide +kernel
theorem dX7_readMan_104 : decode cX7_readMan 104 = .ok (.iastore, 1) := by decide +kernel
theorem dX7_readMan_105 : decode cX7_readMan 105 = .ok (.aload_n 0, 1) := by decide +kernel
theorem dX7_readMan_106 : decode cX7_readMan 106 = .ok (.getfield 22, 3) := by decide +kernel
theorem dX7_readMan_109 : decode cX7_readMan 109 = .ok (.bipush 8, 2) := by decide +kernel
theorem dX7_readMan_111 : decode cX7_readMan 111 = .ok (.aload_n 0, 1) := by decide +kernel
theorem dX7_readMan_112 : decode cX7_readMan 112 = .ok (.getfield 22, 3) := by decide +kernel
theorem dX7_readMan_115 : decode cX7_readMan 115 = .ok (.iconst 3, 1) := by decide +kernel
theorem dX7_readMan_116 : decode cX7_readMan 116 = .ok (.iaload, 1) := by decide +kernel
theorem dX7_readMan_117 : decode cX7_readMan 117 = .ok (.iadd, 1) := by decide +kernel
theorem dX7_readMan_118 : decode cX7_readMan 118 = .ok (.aload_n 0, 1) := by decide +kernel
theorem dX7_readMan_119 : decode cX7_readMan 119 = .ok (.getfield 22, 3) := by decide +kernel
theorem dX7_readMan_122 : decode cX7_readMan 122 = .ok (.iconst 3, 1) := by decide +kernel
theorem dX7_readMan_123 : decode cX7_readMan 123 = .ok (.iaload, 1) := by decide +kernel
theorem dX7_readMan_124 : decode cX7_readMan 124 = .ok (.iastore, 1) := by decide +kernel
theorem dX7_readMan_125 : decode cX7_readMan 125 = .ok (.aload_n 0, 1) := by decide +kernel
theorem dX7_readMan_126 : decode cX7_readMan 126 = .ok (.getfield 22, 3) := by decide +kernel
theorem dX7_readMan_129 : decode cX7_readMan 129 = .ok (.iconst 3, 1) := by decide +kernel
theorem dX7_readMan_130 : decode cX7_readMan 130 = .ok (.dup2, 1) := by decide +kernel
theorem dX7_readMan_131 : decode cX7_readMan 131 = .ok (.iaload, 1) := by decide +kernel
theorem dX7_readMan_132 : decode cX7_readMan 132 = .ok (.iconst 1, 1) := by decide +kernel
theorem dX7_readMan_133 : decode cX7_readMan 133 = .ok (.iadd, 1) := by decide +kernel
theorem dX7_readMan_134 : decode cX7_readMan 134 = .ok (.iastore, 1) := by decide +kernel
theorem dX7_readMan_135 : decode cX7_readMan 135 = .ok (.return_, 1) := by decide +kernel
theorem dX7_bench_0 : decode cX7_bench 0 = .ok (.aload_n 0, 1) := by decide +kernel
theorem dX7_bench_1 : decode cX7_bench 1 = .ok (.iconst 0, 1) := by decide +kernel
theorem dX7_bench_2 : decode cX7_bench 2 = .ok (.putfield 50, 3) := by decide +kernel
theorem dX7_bench_5 : decode cX7_bench 5 = .ok (.aload_n 0, 1) := by decide +kernel
theorem dX7_bench_6 : decode cX7_bench 6 = .ok (.invokevirtual 132, 3) := by decide +kernel
theorem dX7_bench_9 : decode cX7_bench 9 = .ok (.iconst 0, 1) := by decide +kernel
theorem dX7_bench_10 : decode cX7_bench 10 = .ok (.istore_n 1, 1) := by decide +kernel
theorem dX7_bench_11 : decode cX7_bench 11 = .ok (.iload_n 1, 1) := by decide +kernel
theorem dX7_bench_12 : decode cX7_bench 12 = .ok (.bipush 50, 2) := by decide +kernel
theorem dX7_bench_14 : decode cX7_bench 14 = .ok (.if_icmp .ge 16, 3) := by decide +kernel
theorem dX7_bench_17 : decode cX7_bench 17 = .ok (.aload_n 0, 1) := by decide +kernel
theorem dX7_bench_18 : decode cX7_bench 18 = .ok (.getfield 22, 3) := by decide +kernel
theorem dX7_bench_21 : decode cX7_bench 21 = .ok (.iload_n 1, 1) := by decide +kernel
theorem dX7_bench_22 : decode cX7_bench 22 = .ok (.iconst 0, 1) := by decide +kernel
theorem dX7_bench_23 : decode cX7_bench 23 = .ok (.iastore, 1) := by decide +kernel
theorem dX7_bench_24 : decode cX7_bench 24 = .ok (.iinc 1 1, 3) := by decide +kernel
theorem dX7_bench_27 : decode cX7_bench 27 = .ok (.goto (-16), 3) := by decide +kernel
theorem dX7_bench_30 : decode cX7_bench 30 = .ok (.aload_n 0, 1) := by decide +kernel
theorem dX7_bench_31 : decode cX7_bench 31 = .ok (.getfield 22, 3) := by decide +kernel
theorem dX7_bench_34 : decode cX7_bench 34 = .ok (.iconst 0, 1) := by decide +kernel
theorem dX7_bench_35 : decode cX7_bench 35 = .ok (.iconst 1, 1) := by decide +kernel
theorem dX7_bench_36 : decode cX7_bench 36 = .ok (.iastore, 1) := by decide +kernel
theorem dX7_bench_37 : decode cX7_bench 37 = .ok (.aload_n 0, 1) := by decide +kernel
theorem dX7_bench_38 : decode cX7_bench 38 = .ok (.aload_n 0, 1) := by decide +kernel
theorem dX7_bench_39 : decode cX7_bench 39 = .ok (.bipush 98, 2) := by decide +kernel
theorem dX7_bench_41 : decode cX7_bench 41 = .ok (.invokevirtual 135, 3) := by decide +kernel
theorem dX7_bench_44 : decode cX7_bench 44 = .ok (.invokevirtual 115, 3) := by decide +kernel
theorem dX7_bench_47 : decode cX7_bench 47 = .ok (.aload_n 0, 1) := by decide +kernel
theorem dX7_bench_48 : decode cX7_bench 48 = .ok (.getfield 22, 3) := by decide +kernel
theorem dX7_bench_51 : decode cX7_bench 51 = .ok (.iconst 1, 1) := by decide +kernel
theorem dX7_bench_52 : decode cX7_bench 52 = .ok (.aload_n 0, 1) := by decide +kernel
theorem dX7_bench_53 : decode cX7_bench 53 = .ok (.iconst 0, 1) := by decide +kernel
theorem dX7_bench_54 : decode cX7_bench 54 = .ok (.bipush 23, 2) := by decide +kernel
theorem dX7_bench_56 : decode cX7_bench 56 = .ok (.invokevirtual 125, 3) := by decide +kernel
theorem dX7_bench_59 : decode cX7_bench 59 = .ok (.iastore, 1) := by decide +kernel
theorem dX7_bench_60 : decode cX7_bench 60 = .ok (.aload_n 0, 1) := by decide +kernel
theorem dX7_bench_61 : decode cX7_bench 61 = .ok (.bipush 44, 2) := by decide +kernel
theorem dX7_bench_63 : decode cX7_bench 63 = .ok (.invokevirtual 129, 3) := by decide +kernel
theorem dX7_bench_66 : decode cX7_bench 66 = .ok (.aload_n 0, 1) := by decide +kernel
theorem dX7_bench_67 : decode cX7_bench 67 = .ok (.getfield 22, 3) := by decide +kernel
theorem dX7_bench_70 : decode cX7_bench 70 = .ok (.iconst 2, 1) := by decide +kernel
theorem dX7_bench_71 : decode cX7_bench 71 = .ok (.aload_n 0, 1) := by decide +kernel
theorem dX7_bench_72 : decode cX7_bench 72 = .ok (.iconst 0, 1) := by decide +kernel
theorem dX7_bench_73 : decode cX7_bench 73 = .ok (.bipush 9, 2) := by decide +kernel
theorem dX7_bench_75 : decode cX7_bench 75 = .ok (.invokevirtual 125, 3) := by decide +kernel
theorem dX7_bench_78 : decode cX7_bench 78 = .ok (.iastore, 1) := by decide +kernel
theorem dX7_bench_79 : decode cX7_bench 79 = .ok (.aload_n 0, 1) := by decide +kernel
theorem dX7_bench_80 : decode cX7_bench 80 = .ok (.bipush 59, 2) := by decide +kernel
theorem dX7_bench_82 : decode cX7_bench 82 = .ok (.invokevirtual 129, 3) := by decide +kernel
theorem dX7_bench_85 : decode cX7_bench 85 = .ok (.aload_n 0, 1) := by decide +kernel
theorem dX7_bench_86 : decode cX7_bench 86 = .ok (.invokevirtual 138, 3) := by decide +kernel
theorem dX7_bench_89 : decode cX7_bench 89 = .ok (.ifCond .ne 8, 3) := by decide +kernel
theorem dX7_bench_92 : decode cX7_bench 92 = .ok (.aload_n 0, 1) := by decide +kernel
theorem dX7_bench_93 : decode cX7_bench 93 = .ok (.iconst 1, 1) := by decide +kernel
theorem dX7_bench_94 : decode cX7_bench 94 = .ok (.invokevirtual 108, 3) := by decide +kernel
theorem dX7_bench_97 : decode cX7_bench 97 = .ok (.aload_n 0, 1) := by decide +kernel
theorem dX7_bench_98 : decode cX7_bench 98 = .ok (.invokevirtual 138, 3) := by decide +kernel
theorem dX7_bench_101 : decode cX7_bench 101 = .ok (.ifCond .eq 10, 3) := by decide +kernel
theorem dX7_bench_104 : decode cX7_bench 104 = .ok (.aload_n 0, 1) := by decide +kernel
theorem dX7_bench_105 : decode cX7_bench 105 = .ok (.invokevirtual 142, 3) := by decide +kernel
theorem dX7_bench_108 : decode cX7_bench 108 = .ok (.goto (-11), 3) := by decide +kernel
theorem dX7_bench_111 : decode cX7_bench 111 = .ok (.aload_n 0, 1) := by decide +kernel
theorem dX7_bench_112 : decode cX7_bench 112 = .ok (.invokevirtual 145, 3) := by decide +kernel
theorem dX7_bench_115 : decode cX7_bench 115 = .ok (.ifCond .eq 11, 3) := by decide +kernel
theorem dX7_bench_118 : decode cX7_bench 118 = .ok (.ldc 148, 2) := by decide +kernel
theorem dX7_bench_120 : decode cX7_bench 120 = .ok (.aload_n 0, 1) := by decide +kernel
theorem dX7_bench_121 : decode cX7_bench 121 = .ok (.getfield 87, 3) := by decide +kernel
theorem dX7_bench_124 : decode cX7_bench 124 = .ok (.isub, 1) := by decide +kernel
theorem dX7_bench_125 : decode cX7_bench 125 = .ok (.ireturn, 1) := by decide +kernel
theorem dX7_bench_126 : decode cX7_bench 126 = .ok (.aload_n 0, 1) := by decide +kernel
theorem dX7_bench_127 : decode cX7_bench 127 = .ok (.iconst 0, 1) := by decide +kernel
theorem dX7_bench_128 : decode cX7_bench 128 = .ok (.putfield 149, 3) := by decide +kernel
theorem dX7_bench_131 : decode cX7_bench 131 = .ok (.aload_n 0, 1) := by decide +kernel
theorem dX7_bench_132 : decode cX7_bench 132 = .ok (.getfield 22, 3) := by decide +kernel
theorem dX7_bench_135 : decode cX7_bench 135 = .ok (.bipush 7, 2) := by decide +kernel
theorem dX7_bench_137 : decode cX7_bench 137 = .ok (.aload_n 0, 1) := by decide +kernel
theorem dX7_bench_138 : decode cX7_bench 138 = .ok (.getfield 22, 3) := by decide +kernel
theorem dX7_bench_141 : decode cX7_bench 141 = .ok (.iconst 3, 1) := by decide +kernel
theorem dX7_bench_142 : decode cX7_bench 142 = .ok (.iaload, 1) := by decide +kernel
theorem dX7_bench_143 : decode cX7_bench 143 = .ok (.iastore, 1) := by decide +kernel
theorem dX7_bench_144 : decode cX7_bench 144 = .ok (.iconst 0, 1) := by decide +kernel
theorem dX7_bench_145 : decode cX7_bench 145 = .ok (.istore_n 1, 1) := by decide +kernel
theorem dX7_bench_146 : decode cX7_bench 146 = .ok (.iload_n 1, 1) := by decide +kernel
theorem dX7_bench_147 : decode cX7_bench 147 = .ok (.bipush 50, 2) := by decide +kernel
theorem dX7_bench_149 : decode cX7_bench 149 = .ok (.if_icmp .ge 21, 3) := by decide +kernel
theorem dX7_bench_152 : decode cX7_bench 152 = .ok (.aload_n 0, 1) := by decide +kernel
theorem dX7_bench_153 : decode cX7_bench 153 = .ok (.getfield 19, 3) := by decide +kernel
theorem dX7_bench_156 : decode cX7_bench 156 = .ok (.iload_n 1, 1) := by decide +kernel
theorem dX7_bench_157 : decode cX7_bench 157 = .ok (.aload_n 0, 1) := by decide +kernel
theorem dX7_bench_158 : decode cX7_bench 158 = .ok (.getfield 22, 3) := by decide +kernel
theorem dX7_bench_161 : decode cX7_bench 161 = .ok (.iload_n 1, 1) := by decide +kernel
theorem dX7_bench_162 : decode cX7_bench 162 = .ok (.iaload, 1) := by decide +kernel
theorem dX7_bench_163 : decode cX7_bench 163 = .ok (.iastore, 1) := by decide +kernel
theorem dX7_bench_164 : decode cX7_bench 164 = .ok (.iinc 1 1, 3) := by decide +kernel
theorem dX7_bench_167 : decode cX7_bench 167 = .ok (.goto (-21), 3) := by decide +kernel
theorem dX7_bench_170 : decode cX7_bench 170 = .ok (.aload_n 0, 1) := by decide +kernel
theorem dX7_bench_171 : decode cX7_bench 171 = .ok (.getfield 19, 3) := by decide +kernel
theorem dX7_bench_174 : decode cX7_bench 174 = .ok (.iconst 3, 1) := by decide +kernel
theorem dX7_bench_175 : decode cX7_bench 175 = .ok (.iaload, 1) := by decide +kernel
theorem dX7_bench_176 : decode cX7_bench 176 = .ok (.ireturn, 1) := by decide +kernel
theorem dX7_isThere_0 : decode cX7_isThere 0 = .ok (.aload_n 0, 1) := by decide +kernel
theorem dX7_isThere_1 : decode cX7_isThere 1 = .ok (.getfield 19, 3) := by decide +kernel
theorem dX7_isThere_4 : decode cX7_isThere 4 = .ok (.iconst 0, 1) := by decide +kernel
theorem dX7_isThere_5 : decode cX7_isThere 5 = .ok (.iaload, 1) := by decide +kernel
theorem dX7_isThere_6 : decode cX7_isThere 6 = .ok (.iconst 1, 1) := by decide +kernel
theorem dX7_isThere_7 : decode cX7_isThere 7 = .ok (.if_icmp .ne 7, 3) := by decide +kernel
theorem dX7_isThere_10 : decode cX7_isThere 10 = .ok (.iconst 1, 1) := by decide +kernel
theorem dX7_isThere_11 : decode cX7_isThere 11 = .ok (.goto 4, 3) := by decide +kernel
theorem dX7_isThere_14 : decode cX7_isThere 14 = .ok (.iconst 0, 1) := by decide +kernel
theorem dX7_isThere_15 : decode cX7_isThere 15 = .ok (.ireturn, 1) := by decide +kernel
theorem dX7_isMan_0 : decode cX7_isMan 0 = .ok (.iload_n 1, 1) := by decide +kernel
theorem dX7_isMan_1 : decode cX7_isMan 1 = .ok (.i2l, 1) := by decide +kernel
theorem dX7_isMan_2 : decode cX7_isMan 2 = .ok (.lconst 0, 1) := by decide +kernel
theorem dX7_isMan_3 : decode cX7_isMan 3 = .ok (.aload_n 0, 1) := by decide +kernel
theorem dX7_isMan_4 : decode cX7_isMan 4 = .ok (.getfield 19, 3) := by decide +kernel
theorem dX7_isMan_7 : decode cX7_isMan 7 = .ok (.iconst 3, 1) := by decide +kernel
theorem dX7_isMan_8 : decode cX7_isMan 8 = .ok (.iaload, 1) := by decide +kernel
theorem dX7_isMan_9 : decode cX7_isMan 9 = .ok (.iconst 1, 1) := by decide +kernel
theorem dX7_isMan_10 : decode cX7_isMan 10 = .ok (.isub, 1) := by decide +kernel
theorem dX7_isMan_11 : decode cX7_isMan 11 = .ok (.i2l, 1) := by decide +kernel
theorem dX7_isMan_12 : decode cX7_isMan 12 = .ok (.invokestatic 60, 3) := by decide +kernel
theorem dX7_isMan_15 : decode cX7_isMan 15 = .ok (.ireturn, 1) := by decide +kernel
theorem dX7_of_0 : decode cX7_of 0 = .ok (.aload_n 0, 1) := by decide +kernel
theorem dX7_of_1 : decode cX7_of 1 = .ok (.bipush 15, 2) := by decide +kernel
theorem dX7_of_3 : decode cX7_of 3 = .ok (.iconst 5, 1) := by decide +kernel
theorem dX7_of_4 : decode cX7_of 4 = .ok (.iload_n 1, 1) := by decide +kernel
theorem dX7_of_5 : decode cX7_of 5 = .ok (.imul, 1) := by decide +kernel
theorem dX7_of_6 : decode cX7_of 6 = .ok (.iadd, 1) := by decide +kernel
theorem dX7_of_7 : decode cX7_of 7 = .ok (.iload_n 2, 1) := by decide +kernel
theorem dX7_of_8 : decode cX7_of 8 = .ok (.iadd, 1) := by decide +kernel
theorem dX7_of_9 : decode cX7_of 9 = .ok (.iaload, 1) := by decide +kernel
theorem dX7_of_10 : decode cX7_of 10 = .ok (.ireturn, 1) := by decide +kernel
theorem dX7_sunOf_0 : decode cX7_sunOf 0 = .ok (.iload_n 1, 1) := by decide +kernel
theorem dX7_sunOf_1 : decode cX7_sunOf 1 = .ok (.aload_n 0, 1) := by decide +kernel
theorem dX7_sunOf_2 : decode cX7_sunOf 2 = .ok (.iconst 1, 1) := by decide +kernel
theorem dX7_sunOf_3 : decode cX7_sunOf 3 = .ok (.iaload, 1) := by decide +kernel
theorem dX7_sunOf_4 : decode cX7_sunOf 4 = .ok (.if_icmp .le 11, 3) := by decide +kernel
theorem dX7_sunOf_7 : decode cX7_sunOf 7 = .ok (.iload_n 1, 1) := by decide +kernel
theorem dX7_sunOf_8 : decode cX7_sunOf 8 = .ok (.aload_n 0, 1) := by decide +kernel
theorem dX7_sunOf_9 : decode cX7_sunOf 9 = .ok (.iconst 1, 1) := by decide +kernel
theorem dX7_sunOf_10 : decode cX7_sunOf 10 = .ok (.iaload, 1) := by decide +kernel
theorem dX7_sunOf_11 : decode cX7_sunOf 11 = .ok (.isub, 1) := by decide +kernel
theorem dX7_sunOf_12 : decode cX7_sunOf 12 = .ok (.goto 8, 3) := by decide +kernel
theorem dX7_sunOf_15 : decode cX7_sunOf 15 = .ok (.aload_n 0, 1) := by decide +kernel
theorem dX7_sunOf_16 : decode cX7_sunOf 16 = .ok (.iconst 1, 1) := by decide +kernel
theorem dX7_sunOf_17 : decode cX7_sunOf 17 = .ok (.iaload, 1) := by decide +kernel
theorem dX7_sunOf_18 : decode cX7_sunOf 18 = .ok (.iload_n 1, 1) := by decide +kernel
theorem dX7_sunOf_19 : decode cX7_sunOf 19 = .ok (.isub, 1) := by decide +kernel
theorem dX7_sunOf_20 : decode cX7_sunOf 20 = .ok (.istore_n 2, 1) := by decide +kernel
theorem dX7_sunOf_21 : decode cX7_sunOf 21 = .ok (.iload_n 2, 1) := by decide +kernel
theorem dX7_sunOf_22 : decode cX7_sunOf 22 = .ok (.bipush 12, 2) := by decide +kernel
theorem dX7_sunOf_24 : decode cX7_sunOf 24 = .ok (.if_icmp .le 10, 3) := by decide +kernel
theorem dX7_sunOf_27 : decode cX7_sunOf 27 = .ok (.bipush 24, 2) := by decide +kernel
theorem dX7_sunOf_29 : decode cX7_sunOf 29 = .ok (.iload_n 2, 1) := by decide +kernel
theorem dX7_sunOf_30 : decode cX7_sunOf 30 = .ok (.isub, 1) := by decide +kernel
theorem dX7_sunOf_31 : decode cX7_sunOf 31 = .ok (.goto 4, 3) := by decide +kernel
theorem dX7_sunOf_34 : decode cX7_sunOf 34 = .ok (.iload_n 2, 1) := by decide +kernel
theorem dX7_sunOf_35 : decode cX7_sunOf 35 = .ok (.istore_n 2, 1) := by decide +kernel
theorem dX7_sunOf_36 : decode cX7_sunOf 36 = .ok (.aload_n 0, 1) := by decide +kernel
theorem dX7_sunOf_37 : decode cX7_sunOf 37 = .ok (.iconst 2, 1) := by decide +kernel
theorem dX7_sunOf_38 : decode cX7_sunOf 38 = .ok (.iaload, 1) := by decide +kernel
theorem dX7_sunOf_39 : decode cX7_sunOf 39 = .ok (.iload_n 2, 1) := by decide +kernel
theorem dX7_sunOf_40 : decode cX7_sunOf 40 = .ok (.if_icmp .le 11, 3) := by decide +kernel
theorem dX7_sunOf_43 : decode cX7_sunOf 43 = .ok (.aload_n 0, 1) := by decide +kernel
theorem dX7_sunOf_44 : decode cX7_sunOf 44 = .ok (.iconst 2, 1) := by decide +kernel
theorem dX7_sunOf_45 : decode cX7_sunOf 45 = .ok (.iaload, 1) := by decide +kernel
theorem dX7_sunOf_46 : decode cX7_sunOf 46 = .ok (.iload_n 2, 1) := by decide +kernel
theorem dX7_sunOf_47 : decode cX7_sunOf 47 = .ok (.isub, 1) := by decide +kernel
theorem dX7_sunOf_48 : decode cX7_sunOf 48 = .ok (.goto 4, 3) := by decide +kernel
theorem dX7_sunOf_51 : decode cX7_sunOf 51 = .ok (.iconst 0, 1) := by decide +kernel
theorem dX7_sunOf_52 : decode cX7_sunOf 52 = .ok (.ireturn, 1) := by decide +kernel
theorem dX7_isSunny_0 : decode cX7_isSunny 0 = .ok (.aload_n 0, 1) := by decide +kernel
theorem dX7_isSunny_1 : decode cX7_isSunny 1 = .ok (.aload_n 0, 1) := by decide +kernel
theorem dX7_isSunny_2 : decode cX7_isSunny 2 = .ok (.iconst 4, 1) := by decide +kernel
theorem dX7_isSunny_3 : decode cX7_isSunny 3 = .ok (.iaload, 1) := by decide +kernel
theorem dX7_isSunny_4 : decode cX7_isSunny 4 = .ok (.bipush 24, 2) := by decide +kernel
theorem dX7_isSunny_6 : decode cX7_isSunny 6 = .ok (.irem, 1) := by decide +kernel
theorem dX7_isSunny_7 : decode cX7_isSunny 7 = .ok (.invokestatic 152, 3) := by decide +kernel
theorem dX7_isSunny_10 : decode cX7_isSunny 10 = .ok (.istore_n 2, 1) := by decide +kernel
theorem dX7_isSunny_11 : decode cX7_isSunny 11 = .ok (.iload_n 2, 1) := by decide +kernel
theorem dX7_isSunny_12 : decode cX7_isSunny 12 = .ok (.aload_n 0, 1) := by decide +kernel
theorem dX7_isSunny_13 : decode cX7_isSunny 13 = .ok (.bipush 7, 2) := by decide +kernel
theorem dX7_isSunny_15 : decode cX7_isSunny 15 = .ok (.iaload, 1) := by decide +kernel
theorem dX7_isSunny_16 : decode cX7_isSunny 16 = .ok (.if_icmp .le 10, 3) := by decide +kernel
theorem dX7_isSunny_19 : decode cX7_isSunny 19 = .ok (.aload_n 0, 1) := by decide +kernel
theorem dX7_isSunny_20 : decode cX7_isSunny 20 = .ok (.bipush 7, 2) := by decide +kernel
theorem dX7_isSunny_22 : decode cX7_isSunny 22 = .ok (.iaload, 1) := by decide +kernel
theorem dX7_isSunny_23 : decode cX7_isSunny 23 = .ok (.goto 4, 3) := by decide +kernel
theorem dX7_isSunny_26 : decode cX7_isSunny 26 = .ok (.iload_n 2, 1) := by decide +kernel
theorem dX7_isSunny_27 : decode cX7_isSunny 27 = .ok (.istore_n 2, 1) := by decide +kernel
theorem dX7_isSunny_28 : decode cX7_isSunny 28 = .ok (.aload_n 0, 1) := by decide +kernel
theorem dX7_isSunny_29 : decode cX7_isSunny 29 = .ok (.iconst 5, 1) := by decide +kernel
theorem dX7_isSunny_30 : decode cX7_isSunny 30 = .ok (.iaload, 1) := by decide +kernel
theorem dX7_isSunny_31 : decode cX7_isSunny 31 = .ok (.iconst 1, 1) := by decide +kernel
theorem dX7_isSunny_32 : decode cX7_isSunny 32 = .ok (.if_icmp .ne 21, 3) := by decide +kernel
theorem dX7_isSunny_35 : decode cX7_isSunny 35 = .ok (.iload_n 1, 1) := by decide +kernel
theorem dX7_isSunny_36 : decode cX7_isSunny 36 = .ok (.aload_n 0, 1) := by decide +kernel
theorem dX7_isSunny_37 : decode cX7_isSunny 37 = .ok (.bipush 7, 2) := by decide +kernel
theorem dX7_isSunny_39 : decode cX7_isSunny 39 = .ok (.iaload, 1) := by decide +kernel
theorem dX7_isSunny_40 : decode cX7_isSunny 40 = .ok (.iload_n 2, 1) := by decide +kernel
theorem dX7_isSunny_41 : decode cX7_isSunny 41 = .ok (.isub, 1) := by decide +kernel
theorem dX7_isSunny_42 : decode cX7_isSunny 42 = .ok (.if_icmp .lt 7, 3) := by decide +kernel
theorem dX7_isSunny_45 : decode cX7_isSunny 45 = .ok (.iconst 1, 1) := by decide +kernel
theorem dX7_isSunny_46 : decode cX7_isSunny 46 = .ok (.goto 17, 3) := by decide +kernel
theorem dX7_isSunny_49 : decode cX7_isSunny 49 = .ok (.iconst 0, 1) := by decide +kernel
theorem dX7_isSunny_50 : decode cX7_isSunny 50 = .ok (.goto 13, 3) := by decide +kernel
theorem dX7_isSunny_53 : decode cX7_isSunny 53 = .ok (.iload_n 1, 1) := by decide +kernel
theorem dX7_isSunny_54 : decode cX7_isSunny 54 = .ok (.iload_n 2, 1) := by decide +kernel
theorem dX7_isSunny_55 : decode cX7_isSunny 55 = .ok (.if_icmp .ge 7, 3) := by decide +kernel
theorem dX7_isSunny_58 : decode cX7_isSunny 58 = .ok (.iconst 1, 1) := by decide +kernel
theorem dX7_isSunny_59 : decode cX7_isSunny 59 = .ok (.goto 4, 3) := by decide +kernel
theorem dX7_isSunny_62 : decode cX7_isSunny 62 = .ok (.iconst 0, 1) := by decide +kernel
theorem dX7_isSunny_63 : decode cX7_isSunny 63 = .ok (.ireturn, 1) := by decide +kernel
theorem dX7_placeOf_0 : decode cX7_placeOf 0 = .ok (.ldc 93, 2) := by decide +kernel
theorem dX7_placeOf_2 : decode cX7_placeOf 2 = .ok (.istore_n 2, 1) := by decide +kernel
theorem dX7_placeOf_3 : decode cX7_placeOf 3 = .ok (.iconst 0, 1) := by decide +kernel
theorem dX7_placeOf_4 : decode cX7_placeOf 4 = .ok (.istore_n 3, 1) := by decide +kernel
theorem dX7_placeOf_5 : decode cX7_placeOf 5 = .ok (.iload_n 3, 1) := by decide +kernel
theorem dX7_placeOf_6 : decode cX7_placeOf 6 = .ok (.aload_n 0, 1) := by decide +kernel
theorem dX7_placeOf_7 : decode cX7_placeOf 7 = .ok (.bipush 7, 2) := by decide +kernel
theorem dX7_placeOf_9 : decode cX7_placeOf 9 = .ok (.iaload, 1) := by decide +kernel
theorem dX7_placeOf_10 : decode cX7_placeOf 10 = .ok (.if_icmp .ge 25, 3) := by decide +kernel
theorem dX7_placeOf_13 : decode cX7_placeOf 13 = .ok (.aload_n 0, 1) := by decide +kernel
theorem dX7_placeOf_14 : decode cX7_placeOf 14 = .ok (.bipush 8, 2) := by decide +kernel
theorem dX7_placeOf_16 : decode cX7_placeOf 16 = .ok (.iload_n 3, 1) := by decide +kernel
theorem dX7_placeOf_17 : decode cX7_placeOf 17 = .ok (.iadd, 1) := by decide +kernel
theorem dX7_placeOf_18 : decode cX7_placeOf 18 = .ok (.iaload, 1) := by decide +kernel
theorem dX7_placeOf_19 : decode cX7_placeOf 19 = .ok (.iload_n 1, 1) := by decide +kernel
theorem dX7_placeOf_20 : decode cX7_placeOf 20 = .ok (.if_icmp .ne 7, 3) := by decide +kernel
theorem dX7_placeOf_23 : decode cX7_placeOf 23 = .ok (.iload_n 3, 1) := by decide +kernel
theorem dX7_placeOf_24 : decode cX7_placeOf 24 = .ok (.goto 4, 3) := by decide +kernel
theorem dX7_placeOf_27 : decode cX7_placeOf 27 = .ok (.iload_n 2, 1) := by decide +kernel
theorem dX7_placeOf_28 : decode cX7_placeOf 28 = .ok (.istore_n 2, 1) := by decide +kernel
theorem dX7_placeOf_29 : decode cX7_placeOf 29 = .ok (.iinc 3 1, 3) := by decide +kernel
theorem dX7_placeOf_32 : decode cX7_placeOf 32 = .ok (.goto (-27), 3) := by decide +kernel
theorem dX7_placeOf_35 : decode cX7_placeOf 35 = .ok (.iload_n 2, 1) := by decide +kernel
theorem dX7_placeOf_36 : decode cX7_placeOf 36 = .ok (.ireturn, 1) := by decide +kernel
theorem dX7_hasSun_0 : decode cX7_hasSun 0 = .ok (.aload_n 0, 1) := by decide +kernel
theorem dX7_hasSun_1 : decode cX7_hasSun 1 = .ok (.iload_n 1, 1) := by decide +kernel
theorem dX7_hasSun_2 : decode cX7_hasSun 2 = .ok (.invokestatic 156, 3) := by decide +kernel
theorem dX7_hasSun_5 : decode cX7_hasSun 5 = .ok (.istore_n 2, 1) := by decide +kernel
theorem dX7_hasSun_6 : decode cX7_hasSun 6 = .ok (.iload_n 2, 1) := by decide +kernel
theorem dX7_hasSun_7 : decode cX7_hasSun 7 = .ok (.ldc 93, 2) := by decide +kernel
theorem dX7_hasSun_9 : decode cX7_hasSun 9 = .ok (.if_icmp .eq 15, 3) := by decide +kernel
theorem dX7_hasSun_12 : decode cX7_hasSun 12 = .ok (.aload_n 0, 1) := by decide +kernel
theorem dX7_hasSun_13 : decode cX7_hasSun 13 = .ok (.iload_n 2, 1) := by decide +kernel
theorem dX7_hasSun_14 : decode cX7_hasSun 14 = .ok (.invokestatic 159, 3) := by decide +kernel
theorem dX7_hasSun_17 : decode cX7_hasSun 17 = .ok (.ifCond .eq 7, 3) := by decide +kernel
theorem dX7_hasSun_20 : decode cX7_hasSun 20 = .ok (.iconst 1, 1) := by decide +kernel
theorem dX7_hasSun_21 : decode cX7_hasSun 21 = .ok (.goto 4, 3) := by decide +kernel
theorem dX7_hasSun_24 : decode cX7_hasSun 24 = .ok (.iconst 0, 1) := by decide +kernel
theorem dX7_hasSun_25 : decode cX7_hasSun 25 = .ok (.ireturn, 1) := by decide +kernel
theorem dX7_sitDown_0 : decode cX7_sitDown 0 = .ok (.aload_n 0, 1) := by decide +kernel
theorem dX7_sitDown_1 : decode cX7_sitDown 1 = .ok (.bipush 7, 2) := by decide +kernel
theorem dX7_sitDown_3 : decode cX7_sitDown 3 = .ok (.iaload, 1) := by decide +kernel
theorem dX7_sitDown_4 : decode cX7_sitDown 4 = .ok (.istore_n 3, 1) := by decide +kernel
theorem dX7_sitDown_5 : decode cX7_sitDown 5 = .ok (.iload_n 3, 1) := by decide +kernel
theorem dX7_sitDown_6 : decode cX7_sitDown 6 = .ok (.iload_n 2, 1) := by decide +kernel
theorem dX7_sitDown_7 : decode cX7_sitDown 7 = .ok (.if_icmp .le 23, 3) := by decide +kernel
theorem dX7_sitDown_10 : decode cX7_sitDown 10 = .ok (.aload_n 0, 1) := by decide +kernel
theorem dX7_sitDown_11 : decode cX7_sitDown 11 = .ok (.bipush 8, 2) := by decide +kernel
theorem dX7_sitDown_13 : decode cX7_sitDown 13 = .ok (.iload_n 3, 1) := by decide +kernel
theorem dX7_sitDown_14 : decode cX7_sitDown 14 = .ok (.iadd, 1) := by decide +kernel
theorem dX7_sitDown_15 : decode cX7_sitDown 15 = .ok (.aload_n 0, 1) := by decide +kernel
theorem dX7_sitDown_16 : decode cX7_sitDown 16 = .ok (.bipush 8, 2) := by decide +kernel
theorem dX7_sitDown_18 : decode cX7_sitDown 18 = .ok (.iload_n 3, 1) := by decide +kernel
theorem dX7_sitDown_19 : decode cX7_sitDown 19 = .ok (.iadd, 1) := by decide +kernel
theorem dX7_sitDown_20 : decode cX7_sitDown 20 = .ok (.iconst 1, 1) := by decide +kernel
theorem dX7_sitDown_21 : decode cX7_sitDown 21 = .ok (.isub, 1) := by decide +kernel
theorem dX7_sitDown_22 : decode cX7_sitDown 22 = .ok (.iaload, 1) := by decide +kernel
theorem dX7_sitDown_23 : decode cX7_sitDown 23 = .ok (.iastore, 1) := by decide +kernel
theorem dX7_sitDown_24 : decode cX7_sitDown 24 = .ok (.iinc 3 (-1), 3) := by decide +kernel
theorem dX7_sitDown_27 : decode cX7_sitDown 27 = .ok (.goto (-22), 3) := by decide +kernel
theorem dX7_sitDown_30 : decode cX7_sitDown 30 = .ok (.aload_n 0, 1) := by decide +kernel
theorem dX7_sitDown_31 : decode cX7_sitDown 31 = .ok (.bipush 8, 2) := by decide +kernel
theorem dX7_sitDown_33 : decode cX7_sitDown 33 = .ok (.iload_n 2, 1) := by decide +kernel
theorem dX7_sitDown_34 : decode cX7_sitDown 34 = .ok (.iadd, 1) := by decide +kernel
theorem dX7_sitDown_35 : decode cX7_sitDown 35 = .ok (.iload_n 1, 1) := by decide +kernel
theorem dX7_sitDown_36 : decode cX7_sitDown 36 = .ok (.iastore, 1) := by decide +kernel
theorem dX7_sitDown_37 : decode cX7_sitDown 37 = .ok (.aload_n 0, 1) := by decide +kernel
theorem dX7_sitDown_38 : decode cX7_sitDown 38 = .ok (.bipush 7, 2) := by decide +kernel
theorem dX7_sitDown_40 : decode cX7_sitDown 40 = .ok (.dup2, 1) := by decide +kernel
theorem dX7_sitDown_41 : decode cX7_sitDown 41 = .ok (.iaload, 1) := by decide +kernel
theorem dX7_sitDown_42 : decode cX7_sitDown 42 = .ok (.iconst 1, 1) := by decide +kernel
theorem dX7_sitDown_43 : decode cX7_sitDown 43 = .ok (.iadd, 1) := by decide +kernel
theorem dX7_sitDown_44 : decode cX7_sitDown 44 = .ok (.iastore, 1) := by decide +kernel
theorem dX7_sitDown_45 : decode cX7_sitDown 45 = .ok (.aload_n 0, 1) := by decide +kernel
theorem dX7_sitDown_46 : decode cX7_sitDown 46 = .ok (.bipush 15, 2) := by decide +kernel
theorem dX7_sitDown_48 : decode cX7_sitDown 48 = .ok (.iconst 5, 1) := by decide +kernel
theorem dX7_sitDown_49 : decode cX7_sitDown 49 = .ok (.iload_n 1, 1) := by decide +kernel
theorem dX7_sitDown_50 : decode cX7_sitDown 50 = .ok (.imul, 1) := by decide +kernel
theorem dX7_sitDown_51 : decode cX7_sitDown 51 = .ok (.iadd, 1) := by decide +kernel
theorem dX7_sitDown_52 : decode cX7_sitDown 52 = .ok (.iconst 4, 1) := by decide +kernel
theorem dX7_sitDown_53 : decode cX7_sitDown 53 = .ok (.iadd, 1) := by decide +kernel
theorem dX7_sitDown_54 : decode cX7_sitDown 54 = .ok (.iconst 0, 1) := by decide +kernel
theorem dX7_sitDown_55 : decode cX7_sitDown 55 = .ok (.iastore, 1) := by decide +kernel
theorem dX7_sitDown_56 : decode cX7_sitDown 56 = .ok (.return_, 1) := by decide +kernel
theorem dX7_getUp_0 : decode cX7_getUp 0 = .ok (.aload_n 0, 1) := by decide +kernel
theorem dX7_getUp_1 : decode cX7_getUp 1 = .ok (.iload_n 1, 1) := by decide +kernel
theorem dX7_getUp_2 : decode cX7_getUp 2 = .ok (.invokestatic 156, 3) := by decide +kernel
theorem dX7_getUp_5 : decode cX7_getUp 5 = .ok (.istore_n 3, 1) := by decide +kernel
theorem dX7_getUp_6 : decode cX7_getUp 6 = .ok (.iload_n 3, 1) := by decide +kernel
theorem dX7_getUp_7 : decode cX7_getUp 7 = .ok (.ldc 93, 2) := by decide +kernel
theorem dX7_getUp_9 : decode cX7_getUp 9 = .ok (.if_icmp .eq 47, 3) := by decide +kernel
theorem dX7_getUp_12 : decode cX7_getUp 12 = .ok (.iload_n 3, 1) := by decide +kernel
theorem dX7_getUp_13 : decode cX7_getUp 13 = .ok (.istore 4, 2) := by decide +kernel
theorem dX7_getUp_15 : decode cX7_getUp 15 = .ok (.iload 4, 2) := by decide +kernel
theorem dX7_getUp_17 : decode cX7_getUp 17 = .ok (.aload_n 0, 1) := by decide +kernel
theorem dX7_getUp_18 : decode cX7_getUp 18 = .ok (.bipush 7, 2) := by decide +kernel
theorem dX7_getUp_20 : decode cX7_getUp 20 = .ok (.iaload, 1) := by decide +kernel
theorem dX7_getUp_21 : decode cX7_getUp 21 = .ok (.iconst 1, 1) := by decide +kernel
theorem dX7_getUp_22 : decode cX7_getUp 22 = .ok (.isub, 1) := by decide +kernel
theorem dX7_getUp_23 : decode cX7_getUp 23 = .ok (.if_icmp .ge 25, 3) := by decide +kernel
theorem dX7_getUp_26 : decode cX7_getUp 26 = .ok (.aload_n 0, 1) := by decide +kernel
theorem dX7_getUp_27 : decode cX7_getUp 27 = .ok (.bipush 8, 2) := by decide +kernel
theorem dX7_getUp_29 : decode cX7_getUp 29 = .ok (.iload 4, 2) := by decide +kernel
theorem dX7_getUp_31 : decode cX7_getUp 31 = .ok (.iadd, 1) := by decide +kernel
theorem dX7_getUp_32 : decode cX7_getUp 32 = .ok (.aload_n 0, 1) := by decide +kernel
theorem dX7_getUp_33 : decode cX7_getUp 33 = .ok (.bipush 8, 2) := by decide +kernel
theorem dX7_getUp_35 : decode cX7_getUp 35 = .ok (.iload 4, 2) := by decide +kernel
theorem dX7_getUp_37 : decode cX7_getUp 37 = .ok (.iadd, 1) := by decide +kernel
theorem dX7_getUp_38 : decode cX7_getUp 38 = .ok (.iconst 1, 1) := by decide +kernel
theorem dX7_getUp_39 : decode cX7_getUp 39 = .ok (.iadd, 1) := by decide +kernel
theorem dX7_getUp_40 : decode cX7_getUp 40 = .ok (.iaload, 1) := by decide +kernel
theorem dX7_getUp_41 : decode cX7_getUp 41 = .ok (.iastore, 1) := by decide +kernel
theorem dX7_getUp_42 : decode cX7_getUp 42 = .ok (.iinc 4 1, 3) := by decide +kernel
theorem dX7_getUp_45 : decode cX7_getUp 45 = .ok (.goto (-30), 3) := by decide +kernel
theorem dX7_getUp_48 : decode cX7_getUp 48 = .ok (.aload_n 0, 1) := by decide +kernel
theorem dX7_getUp_49 : decode cX7_getUp 49 = .ok (.bipush 7, 2) := by decide +kernel
theorem dX7_getUp_51 : decode cX7_getUp 51 = .ok (.dup2, 1) := by decide +kernel
theorem dX7_getUp_52 : decode cX7_getUp 52 = .ok (.iaload, 1) := by decide +kernel
theorem dX7_getUp_53 : decode cX7_getUp 53 = .ok (.iconst 1, 1) := by decide +kernel
theorem dX7_getUp_54 : decode cX7_getUp 54 = .ok (.isub, 1) := by decide +kernel
theorem dX7_getUp_55 : decode cX7_getUp 55 = .ok (.iastore, 1) := by decide +kernel
theorem dX7_getUp_56 : decode cX7_getUp 56 = .ok (.aload_n 0, 1) := by decide +kernel
theorem dX7_getUp_57 : decode cX7_getUp 57 = .ok (.bipush 15, 2) := by decide +kernel
theorem dX7_getUp_59 : decode cX7_getUp 59 = .ok (.iconst 5, 1) := by decide +kernel
theorem dX7_getUp_60 : decode cX7_getUp 60 = .ok (.iload_n 1, 1) := by decide +kernel
theorem dX7_getUp_61 : decode cX7_getUp 61 = .ok (.imul, 1) := by decide +kernel
theorem dX7_getUp_62 : decode cX7_getUp 62 = .ok (.iadd, 1) := by decide +kernel
theorem dX7_getUp_63 : decode cX7_getUp 63 = .ok (.iconst 4, 1) := by decide +kernel
theorem dX7_getUp_64 : decode cX7_getUp 64 = .ok (.iadd, 1) := by decide +kernel
theorem dX7_getUp_65 : decode cX7_getUp 65 = .ok (.iload_n 2, 1) := by decide +kernel
theorem dX7_getUp_66 : decode cX7_getUp 66 = .ok (.iastore, 1) := by decide +kernel
theorem dX7_getUp_67 : decode cX7_getUp 67 = .ok (.return_, 1) := by decide +kernel
theorem dX7_change_0 : decode cX7_change 0 = .ok (.aload_n 0, 1) := by decide +kernel
theorem dX7_change_1 : decode cX7_change 1 = .ok (.iload_n 1, 1) := by decide +kernel
theorem dX7_change_2 : decode cX7_change 2 = .ok (.invokestatic 156, 3) := by decide +kernel
theorem dX7_change_5 : decode cX7_change 5 = .ok (.istore_n 2, 1) := by decide +kernel
theorem dX7_change_6 : decode cX7_change 6 = .ok (.aload_n 0, 1) := by decide +kernel
theorem dX7_change_7 : decode cX7_change 7 = .ok (.bipush 8, 2) := by decide +kernel
theorem dX7_change_9 : decode cX7_change 9 = .ok (.iload_n 2, 1) := by decide +kernel
theorem dX7_change_10 : decode cX7_change 10 = .ok (.iadd, 1) := by decide +kernel
theorem dX7_change_11 : decode cX7_change 11 = .ok (.aload_n 0, 1) := by decide +kernel
theorem dX7_change_12 : decode cX7_change 12 = .ok (.bipush 8, 2) := by decide +kernel
theorem dX7_change_14 : decode cX7_change 14 = .ok (.iload_n 2, 1) := by decide +kernel
theorem dX7_change_15 : decode cX7_change 15 = .ok (.iadd, 1) := by decide +kernel
theorem dX7_change_16 : decode cX7_change 16 = .ok (.iconst 1, 1) := by decide +kernel
theorem dX7_change_17 : decode cX7_change 17 = .ok (.isub, 1) := by decide +kernel
theorem dX7_change_18 : decode cX7_change 18 = .ok (.iaload, 1) := by decide +kernel
theorem dX7_change_19 : decode cX7_change 19 = .ok (.iastore, 1) := by decide +kernel
theorem dX7_change_20 : decode cX7_change 20 = .ok (.aload_n 0, 1) := by decide +kernel
theorem dX7_change_21 : decode cX7_change 21 = .ok (.bipush 8, 2) := by decide +kernel
theorem dX7_change_23 : decode cX7_change 23 = .ok (.iload_n 2, 1) := by decide +kernel
theorem dX7_change_24 : decode cX7_change 24 = .ok (.iadd, 1) := by decide +kernel
theorem dX7_change_25 : decode cX7_change 25 = .ok (.iconst 1, 1) := by decide +kernel
theorem dX7_change_26 : decode cX7_change 26 = .ok (.isub, 1) := by decide +kernel
theorem dX7_change_27 : decode cX7_change 27 = .ok (.iload_n 1, 1) := by decide +kernel
theorem dX7_change_28 : decode cX7_change 28 = .ok (.iastore, 1) := by decide +kernel
theorem dX7_change_29 : decode cX7_change 29 = .ok (.return_, 1) := by decide +kernel
theorem dX7_goes_0 : decode cX7_goes 0 = .ok (.aload_n 0, 1) := by decide +kernel
theorem dX7_goes_1 : decode cX7_goes 1 = .ok (.iload_n 1, 1) := by decide +kernel
theorem dX7_goes_2 : decode cX7_goes 2 = .ok (.iconst 0, 1) := by decide +kernel
theorem dX7_goes_3 : decode cX7_goes 3 = .ok (.invokestatic 163, 3) := by decide +kernel
theorem dX7_goes_6 : decode cX7_goes 6 = .ok (.istore_n 2, 1) := by decide +kernel
theorem dX7_goes_7 : decode cX7_goes 7 = .ok (.aload_n 0, 1) := by decide +kernel
theorem dX7_goes_8 : decode cX7_goes 8 = .ok (.iload_n 1, 1) := by decide +kernel
theorem dX7_goes_9 : decode cX7_goes 9 = .ok (.invokestatic 167, 3) := by decide +kernel
theorem dX7_goes_12 : decode cX7_goes 12 = .ok (.istore_n 3, 1) := by decide +kernel
theorem dX7_goes_13 : decode cX7_goes 13 = .ok (.iload_n 2, 1) := by decide +kernel
theorem dX7_goes_14 : decode cX7_goes 14 = .ok (.iconst 1, 1) := by decide +kernel
theorem dX7_goes_15 : decode cX7_goes 15 = .ok (.if_icmp .eq 26, 3) := by decide +kernel
theorem dX7_goes_18 : decode cX7_goes 18 = .ok (.iload_n 2, 1) := by decide +kernel
theorem dX7_goes_19 : decode cX7_goes 19 = .ok (.iconst 3, 1) := by decide +kernel
theorem dX7_goes_20 : decode cX7_goes 20 = .ok (.if_icmp .eq 21, 3) := by decide +kernel
theorem dX7_goes_23 : decode cX7_goes 23 = .ok (.iload_n 2, 1) := by decide +kernel
theorem dX7_goes_24 : decode cX7_goes 24 = .ok (.iconst 2, 1) := by decide +kernel
theorem dX7_goes_25 : decode cX7_goes 25 = .ok (.if_icmp .ne 7, 3) := by decide +kernel
theorem dX7_goes_28 : decode cX7_goes 28 = .ok (.iload_n 3, 1) := by decide +kernel
theorem dX7_goes_29 : decode cX7_goes 29 = .ok (.ifCond .eq 12, 3) := by decide +kernel
theorem dX7_goes_32 : decode cX7_goes 32 = .ok (.iload_n 2, 1) := by decide +kernel
theorem dX7_goes_33 : decode cX7_goes 33 = .ok (.iconst 5, 1) := by decide +kernel
theorem dX7_goes_34 : decode cX7_goes 34 = .ok (.if_icmp .ne 11, 3) := by decide +kernel
theorem dX7_goes_37 : decode cX7_goes 37 = .ok (.iload_n 3, 1) := by decide +kernel
theorem dX7_goes_38 : decode cX7_goes 38 = .ok (.ifCond .eq 7, 3) := by decide +kernel
theorem dX7_goes_41 : decode cX7_goes 41 = .ok (.iconst 1, 1) := by decide +kernel
theorem dX7_goes_42 : decode cX7_goes 42 = .ok (.goto 4, 3) := by decide +kernel
theorem dX7_goes_45 : decode cX7_goes 45 = .ok (.iconst 0, 1) := by decide +kernel
theorem dX7_goes_46 : decode cX7_goes 46 = .ok (.ireturn, 1) := by decide +kernel
theorem dX7_hour_0 : decode cX7_hour 0 = .ok (.aload_n 1, 1) := by decide +kernel
theorem dX7_hour_1 : decode cX7_hour 1 = .ok (.iconst 4, 1) := by decide +kernel
theorem dX7_hour_2 : decode cX7_hour 2 = .ok (.iaload, 1) := by decide +kernel
theorem dX7_hour_3 : decode cX7_hour 3 = .ok (.bipush 24, 2) := by decide +kernel
theorem dX7_hour_5 : decode cX7_hour 5 = .ok (.irem, 1) := by decide +kernel
theorem dX7_hour_6 : decode cX7_hour 6 = .ok (.istore_n 3, 1) := by decide +kernel
theorem dX7_hour_7 : decode cX7_hour 7 = .ok (.iconst 0, 1) := by decide +kernel
theorem dX7_hour_8 : decode cX7_hour 8 = .ok (.istore 4, 2) := by decide +kernel
theorem dX7_hour_10 : decode cX7_hour 10 = .ok (.iload 4, 2) := by decide +kernel
theorem dX7_hour_12 : decode cX7_hour 12 = .ok (.aload_n 1, 1) := by decide +kernel
theorem dX7_hour_13 : decode cX7_hour 13 = .ok (.iconst 3, 1) := by decide +kernel
theorem dX7_hour_14 : decode cX7_hour 14 = .ok (.iaload, 1) := by decide +kernel
theorem dX7_hour_15 : decode cX7_hour 15 = .ok (.if_icmp .ge 61, 3) := by decide +kernel
theorem dX7_hour_18 : decode cX7_hour 18 = .ok (.aload_n 1, 1) := by decide +kernel
theorem dX7_hour_19 : decode cX7_hour 19 = .ok (.iload 4, 2) := by decide +kernel
theorem dX7_hour_21 : decode cX7_hour 21 = .ok (.iconst 4, 1) := by decide +kernel
theorem dX7_hour_22 : decode cX7_hour 22 = .ok (.invokestatic 163, 3) := by decide +kernel
theorem dX7_hour_25 : decode cX7_hour 25 = .ok (.istore 5, 2) := by decide +kernel
theorem dX7_hour_27 : decode cX7_hour 27 = .ok (.iload 5, 2) := by decide +kernel
theorem dX7_hour_29 : decode cX7_hour 29 = .ok (.ifCond .le 41, 3) := by decide +kernel
theorem dX7_hour_32 : decode cX7_hour 32 = .ok (.iload 5, 2) := by decide +kernel
theorem dX7_hour_34 : decode cX7_hour 34 = .ok (.aload_n 1, 1) := by decide +kernel
theorem dX7_hour_35 : decode cX7_hour 35 = .ok (.iconst 4, 1) := by decide +kernel
theorem dX7_hour_36 : decode cX7_hour 36 = .ok (.iaload, 1) := by decide +kernel
theorem dX7_hour_37 : decode cX7_hour 37 = .ok (.if_icmp .gt 33, 3) := by decide +kernel
theorem dX7_hour_40 : decode cX7_hour 40 = .ok (.aload_n 1, 1) := by decide +kernel
theorem dX7_hour_41 : decode cX7_hour 41 = .ok (.iload 4, 2) := by decide +kernel
theorem dX7_hour_43 : decode cX7_hour 43 = .ok (.aload_n 1, 1) := by decide +kernel
theorem dX7_hour_44 : decode cX7_hour 44 = .ok (.iload 4, 2) := by decide +kernel
theorem dX7_hour_46 : decode cX7_hour 46 = .ok (.iconst 0, 1) := by decide +kernel
theorem dX7_hour_47 : decode cX7_hour 47 = .ok (.invokestatic 163, 3) := by decide +kernel
theorem dX7_hour_50 : decode cX7_hour 50 = .ok (.iconst 3, 1) := by decide +kernel
theorem dX7_hour_51 : decode cX7_hour 51 = .ok (.if_icmp .ne 12, 3) := by decide +kernel
theorem dX7_hour_54 : decode cX7_hour 54 = .ok (.aload_n 1, 1) := by decide +kernel
theorem dX7_hour_55 : decode cX7_hour 55 = .ok (.bipush 7, 2) := by decide +kernel
theorem dX7_hour_57 : decode cX7_hour 57 = .ok (.iaload, 1) := by decide +kernel
theorem dX7_hour_58 : decode cX7_hour 58 = .ok (.iconst 2, 1) := by decide +kernel
theorem dX7_hour_59 : decode cX7_hour 59 = .ok (.idiv, 1) := by decide +kernel
theorem dX7_hour_60 : decode cX7_hour 60 = .ok (.goto 7, 3) := by decide +kernel
theorem dX7_hour_63 : decode cX7_hour 63 = .ok (.aload_n 1, 1) := by decide +kernel
theorem dX7_hour_64 : decode cX7_hour 64 = .ok (.bipush 7, 2) := by decide +kernel
theorem dX7_hour_66 : decode cX7_hour 66 = .ok (.iaload, 1) := by decide +kernel
theorem dX7_hour_67 : decode cX7_hour 67 = .ok (.invokestatic 170, 3) := by decide +kernel
theorem dX7_hour_70 : decode cX7_hour 70 = .ok (.iinc 4 1, 3) := by decide +kernel
theorem dX7_hour_73 : decode cX7_hour 73 = .ok (.goto (-63), 3) := by decide +kernel
theorem dX7_hour_76 : decode cX7_hour 76 = .ok (.iconst 0, 1) := by decide +kernel
theorem dX7_hour_77 : decode cX7_hour 77 = .ok (.istore 4, 2) := by decide +kernel
theorem dX7_hour_79 : decode cX7_hour 79 = .ok (.iconst 0, 1) := by decide +kernel
theorem dX7_hour_80 : decode cX7_hour 80 = .ok (.istore 5, 2) := by decide +kernel
theorem dX7_hour_82 : decode cX7_hour 82 = .ok (.iload 5, 2) := by decide +kernel
theorem dX7_hour_84 : decode cX7_hour 84 = .ok (.aload_n 1, 1) := by decide +kernel
theorem dX7_hour_85 : decode cX7_hour 85 = .ok (.bipush 7, 2) := by decide +kernel
theorem dX7_hour_87 : decode cX7_hour 87 = .ok (.iaload, 1) := by decide +kernel
theorem dX7_hour_88 : decode cX7_hour 88 = .ok (.if_icmp .ge 50, 3) := by decide +kernel
theorem dX7_hour_91 : decode cX7_hour 91 = .ok (.aload_n 1, 1) := by decide +kernel
theorem dX7_hour_92 : decode cX7_hour 92 = .ok (.bipush 8, 2) := by decide +kernel
theorem dX7_hour_94 : decode cX7_hour 94 = .ok (.iload 5, 2) := by decide +kernel
theorem dX7_hour_96 : decode cX7_hour 96 = .ok (.iadd, 1) := by decide +kernel
theorem dX7_hour_97 : decode cX7_hour 97 = .ok (.iaload, 1) := by decide +kernel
theorem dX7_hour_98 : decode cX7_hour 98 = .ok (.istore 6, 2) := by decide +kernel
theorem dX7_hour_100 : decode cX7_hour 100 = .ok (.aload_n 1, 1) := by decide +kernel
theorem dX7_hour_101 : decode cX7_hour 101 = .ok (.iload 6, 2) := by decide +kernel
theorem dX7_hour_103 : decode cX7_hour 103 = .ok (.iconst 1, 1) := by decide +kernel
theorem dX7_hour_104 : decode cX7_hour 104 = .ok (.invokestatic 163, 3) := by decide +kernel
theorem dX7_hour_107 : decode cX7_hour 107 = .ok (.iload_n 3, 1) := by decide +kernel
theorem dX7_hour_108 : decode cX7_hour 108 = .ok (.if_icmp .ne 24, 3) := by decide +kernel
theorem dX7_hour_111 : decode cX7_hour 111 = .ok (.iload_n 2, 1) := by decide +kernel
theorem dX7_hour_112 : decode cX7_hour 112 = .ok (.iload 6, 2) := by decide +kernel
theorem dX7_hour_114 : decode cX7_hour 114 = .ok (.ishr, 1) := by decide +kernel
theorem dX7_hour_115 : decode cX7_hour 115 = .ok (.iconst 1, 1) := by decide +kernel
theorem dX7_hour_116 : decode cX7_hour 116 = .ok (.iand, 1) := by decide +kernel
theorem dX7_hour_117 : decode cX7_hour 117 = .ok (.ifCond .ne 15, 3) := by decide +kernel
theorem dX7_hour_120 : decode cX7_hour 120 = .ok (.aload_n 0, 1) := by decide +kernel
theorem dX7_hour_121 : decode cX7_hour 121 = .ok (.getfield 34, 3) := by decide +kernel
theorem dX7_hour_124 : decode cX7_hour 124 = .ok (.iload 4, 2) := by decide +kernel
theorem dX7_hour_126 : decode cX7_hour 126 = .ok (.iload 6, 2) := by decide +kernel
theorem dX7_hour_128 : decode cX7_hour 128 = .ok (.iastore, 1) := by decide +kernel
theorem dX7_hour_129 : decode cX7_hour 129 = .ok (.iinc 4 1, 3) := by decide +kernel
theorem dX7_hour_132 : decode cX7_hour 132 = .ok (.iinc 5 1, 3) := by decide +kernel
theorem dX7_hour_135 : decode cX7_hour 135 = .ok (.goto (-53), 3) := by decide +kernel
theorem dX7_hour_138 : decode cX7_hour 138 = .ok (.iconst 0, 1) := by decide +kernel
theorem dX7_hour_139 : decode cX7_hour 139 = .ok (.istore 5, 2) := by decide +kernel
theorem dX7_hour_141 : decode cX7_hour 141 = .ok (.iconst 0, 1) := by decide +kernel
theorem dX7_hour_142 : decode cX7_hour 142 = .ok (.istore 6, 2) := by decide +kernel
theorem dX7_hour_144 : decode cX7_hour 144 = .ok (.iload 6, 2) := by decide +kernel
theorem dX7_hour_146 : decode cX7_hour 146 = .ok (.iload 4, 2) := by decide +kernel
theorem dX7_hour_148 : decode cX7_hour 148 = .ok (.if_icmp .ge 53, 3) := by decide +kernel
theorem dX7_hour_151 : decode cX7_hour 151 = .ok (.aload_n 1, 1) := by decide +kernel
theorem dX7_hour_152 : decode cX7_hour 152 = .ok (.aload_n 0, 1) := by decide +kernel
theorem dX7_hour_153 : decode cX7_hour 153 = .ok (.getfield 34, 3) := by decide +kernel
theorem dX7_hour_156 : decode cX7_hour 156 = .ok (.iload 6, 2) := by decide +kernel
theorem dX7_hour_158 : decode cX7_hour 158 = .ok (.iaload, 1) := by decide +kernel
theorem dX7_hour_159 : decode cX7_hour 159 = .ok (.invokestatic 174, 3) := by decide +kernel
theorem dX7_hour_162 : decode cX7_hour 162 = .ok (.ifCond .eq 33, 3) := by decide +kernel
theorem dX7_hour_165 : decode cX7_hour 165 = .ok (.aload_n 1, 1) := by decide +kernel
theorem dX7_hour_166 : decode cX7_hour 166 = .ok (.aload_n 0, 1) := by decide +kernel
theorem dX7_hour_167 : decode cX7_hour 167 = .ok (.getfield 34, 3) := by decide +kernel
theorem dX7_hour_170 : decode cX7_hour 170 = .ok (.iload 6, 2) := by decide +kernel
theorem dX7_hour_172 : decode cX7_hour 172 = .ok (.iaload, 1) := by decide +kernel
theorem dX7_hour_173 : decode cX7_hour 173 = .ok (.aload_n 1, 1) := by decide +kernel
theorem dX7_hour_174 : decode cX7_hour 174 = .ok (.iconst 4, 1) := by decide +kernel
theorem dX7_hour_175 : decode cX7_hour 175 = .ok (.iaload, 1) := by decide +kernel
theorem dX7_hour_176 : decode cX7_hour 176 = .ok (.aload_n 1, 1) := by decide +kernel
theorem dX7_hour_177 : decode cX7_hour 177 = .ok (.aload_n 0, 1) := by decide +kernel
theorem dX7_hour_178 : decode cX7_hour 178 = .ok (.getfield 34, 3) := by decide +kernel
theorem dX7_hour_181 : decode cX7_hour 181 = .ok (.iload 6, 2) := by decide +kernel
theorem dX7_hour_183 : decode cX7_hour 183 = .ok (.iaload, 1) := by decide +kernel
theorem dX7_hour_184 : decode cX7_hour 184 = .ok (.iconst 2, 1) := by decide +kernel
theorem dX7_hour_185 : decode cX7_hour 185 = .ok (.invokestatic 163, 3) := by decide +kernel
theorem dX7_hour_188 : decode cX7_hour 188 = .ok (.iadd, 1) := by decide +kernel
theorem dX7_hour_189 : decode cX7_hour 189 = .ok (.invokestatic 177, 3) := by decide +kernel
theorem dX7_hour_192 : decode cX7_hour 192 = .ok (.iinc 5 1, 3) := by decide +kernel
theorem dX7_hour_195 : decode cX7_hour 195 = .ok (.iinc 6 1, 3) := by decide +kernel
theorem dX7_hour_198 : decode cX7_hour 198 = .ok (.goto (-54), 3) := by decide +kernel
theorem dX7_hour_201 : decode cX7_hour 201 = .ok (.iconst 0, 1) := by decide +kernel
theorem dX7_hour_202 : decode cX7_hour 202 = .ok (.istore 6, 2) := by decide +kernel
theorem dX7_hour_204 : decode cX7_hour 204 = .ok (.iload 6, 2) := by decide +kernel
theorem dX7_hour_206 : decode cX7_hour 206 = .ok (.aload_n 1, 1) := by decide +kernel
theorem dX7_hour_207 : decode cX7_hour 207 = .ok (.bipush 7, 2) := by decide +kernel
theorem dX7_hour_209 : decode cX7_hour 209 = .ok (.iaload, 1) := by decide +kernel
theorem dX7_hour_210 : decode cX7_hour 210 = .ok (.if_icmp .ge 42, 3) := by decide +kernel
theorem dX7_hour_213 : decode cX7_hour 213 = .ok (.aload_n 1, 1) := by decide +kernel
theorem dX7_hour_214 : decode cX7_hour 214 = .ok (.bipush 15, 2) := by decide +kernel
theorem dX7_hour_216 : decode cX7_hour 216 = .ok (.iconst 5, 1) := by decide +kernel
theorem dX7_hour_217 : decode cX7_hour 217 = .ok (.aload_n 1, 1) := by decide +kernel
theorem dX7_hour_218 : decode cX7_hour 218 = .ok (.bipush 8, 2) := by decide +kernel
theorem dX7_hour_220 : decode cX7_hour 220 = .ok (.iload 6, 2) := by decide +kernel
theorem dX7_hour_222 : decode cX7_hour 222 = .ok (.iadd, 1) := by decide +kernel
theorem dX7_hour_223 : decode cX7_hour 223 = .ok (.iaload, 1) := by decide +kernel
theorem dX7_hour_224 : decode cX7_hour 224 = .ok (.imul, 1) := by decide +kernel
theorem dX7_hour_225 : decode cX7_hour 225 = .ok (.iadd, 1) := by decide +kernel
theorem dX7_hour_226 : decode cX7_hour 226 = .ok (.iconst 3, 1) := by decide +kernel
theorem dX7_hour_227 : decode cX7_hour 227 = .ok (.iadd, 1) := by decide +kernel
theorem dX7_hour_228 : decode cX7_hour 228 = .ok (.dup2, 1) := by decide +kernel
theorem dX7_hour_229 : decode cX7_hour 229 = .ok (.iaload, 1) := by decide +kernel
theorem dX7_hour_230 : decode cX7_hour 230 = .ok (.aload_n 1, 1) := by decide +kernel
theorem dX7_hour_231 : decode cX7_hour 231 = .ok (.iload 6, 2) := by decide +kernel
theorem dX7_hour_233 : decode cX7_hour 233 = .ok (.invokestatic 159, 3) := by decide +kernel
theorem dX7_hour_236 : decode cX7_hour 236 = .ok (.ifCond .eq 7, 3) := by decide +kernel
theorem dX7_hour_239 : decode cX7_hour 239 = .ok (.iconst 1, 1) := by decide +kernel
theorem dX7_hour_240 : decode cX7_hour 240 = .ok (.goto 4, 3) := by decide +kernel
theorem dX7_hour_243 : decode cX7_hour 243 = .ok (.iconst 0, 1) := by decide +kernel
theorem dX7_hour_244 : decode cX7_hour 244 = .ok (.iadd, 1) := by decide +kernel
theorem dX7_hour_245 : decode cX7_hour 245 = .ok (.iastore, 1) := by decide +kernel
theorem dX7_hour_246 : decode cX7_hour 246 = .ok (.iinc 6 1, 3) := by decide +kernel
theorem dX7_hour_249 : decode cX7_hour 249 = .ok (.goto (-45), 3) := by decide +kernel
theorem dX7_hour_252 : decode cX7_hour 252 = .ok (.aload_n 1, 1) := by decide +kernel
theorem dX7_hour_253 : decode cX7_hour 253 = .ok (.iconst 4, 1) := by decide +kernel
theorem dX7_hour_254 : decode cX7_hour 254 = .ok (.dup2, 1) := by decide +kernel
theorem dX7_hour_255 : decode cX7_hour 255 = .ok (.iaload, 1) := by decide +kernel
theorem dX7_hour_256 : decode cX7_hour 256 = .ok (.iconst 1, 1) := by decide +kernel
theorem dX7_hour_257 : decode cX7_hour 257 = .ok (.iadd, 1) := by decide +kernel
theorem dX7_hour_258 : decode cX7_hour 258 = .ok (.iastore, 1) := by decide +kernel
theorem dX7_hour_259 : decode cX7_hour 259 = .ok (.iload 5, 2) := by decide +kernel
theorem dX7_hour_261 : decode cX7_hour 261 = .ok (.ireturn, 1) := by decide +kernel
theorem dX7_hoursOf_0 : decode cX7_hoursOf 0 = .ok (.iconst 0, 1) := by decide +kernel
theorem dX7_hoursOf_1 : decode cX7_hoursOf 1 = .ok (.istore_n 3, 1) := by decide +kernel
theorem dX7_hoursOf_2 : decode cX7_hoursOf 2 = .ok (.iconst 0, 1) := by decide +kernel
theorem dX7_hoursOf_3 : decode cX7_hoursOf 3 = .ok (.istore 4, 2) := by decide +kernel
theorem dX7_hoursOf_5 : decode cX7_hoursOf 5 = .ok (.iload 4, 2) := by decide +kernel
theorem dX7_hoursOf_7 : decode cX7_hoursOf 7 = .ok (.iload_n 2, 1) := by decide +kernel
theorem dX7_hoursOf_8 : decode cX7_hoursOf 8 = .ok (.if_icmp .ge 18, 3) := by decide +kernel
theorem dX7_hoursOf_11 : decode cX7_hoursOf 11 = .ok (.iload_n 3, 1) := by decide +kernel
theorem dX7_hoursOf_12 : decode cX7_hoursOf 12 = .ok (.aload_n 0, 1) := by decide +kernel
theorem dX7_hoursOf_13 : decode cX7_hoursOf 13 = .ok (.aload_n 1, 1) := by decide +kernel
theorem dX7_hoursOf_14 : decode cX7_hoursOf 14 = .ok (.iconst 0, 1) := by decide +kernel
theorem dX7_hoursOf_15 : decode cX7_hoursOf 15 = .ok (.invokevirtual 180, 3) := by decide +kernel
theorem dX7_hoursOf_18 : decode cX7_hoursOf 18 = .ok (.iadd, 1) := by decide +kernel
theorem dX7_hoursOf_19 : decode cX7_hoursOf 19 = .ok (.istore_n 3, 1) := by decide +kernel
theorem dX7_hoursOf_20 : decode cX7_hoursOf 20 = .ok (.iinc 4 1, 3) := by decide +kernel
theorem dX7_hoursOf_23 : decode cX7_hoursOf 23 = .ok (.goto (-18), 3) := by decide +kernel
theorem dX7_hoursOf_26 : decode cX7_hoursOf 26 = .ok (.iload_n 3, 1) := by decide +kernel
theorem dX7_hoursOf_27 : decode cX7_hoursOf 27 = .ok (.ireturn, 1) := by decide +kernel
theorem dX7_layThen_0 : decode cX7_layThen 0 = .ok (.iconst 0, 1) := by decide +kernel
theorem dX7_layThen_1 : decode cX7_layThen 1 = .ok (.istore_n 1, 1) := by decide +kernel
theorem dX7_layThen_2 : decode cX7_layThen 2 = .ok (.iload_n 1, 1) := by decide +kernel
theorem dX7_layThen_3 : decode cX7_layThen 3 = .ok (.bipush 50, 2) := by decide +kernel
theorem dX7_layThen_5 : decode cX7_layThen 5 = .ok (.if_icmp .ge 21, 3) := by decide +kernel
theorem dX7_layThen_8 : decode cX7_layThen 8 = .ok (.aload_n 0, 1) := by decide +kernel
theorem dX7_layThen_9 : decode cX7_layThen 9 = .ok (.getfield 25, 3) := by decide +kernel
theorem dX7_layThen_12 : decode cX7_layThen 12 = .ok (.iload_n 1, 1) := by decide +kernel
theorem dX7_layThen_13 : decode cX7_layThen 13 = .ok (.aload_n 0, 1) := by decide +kernel
theorem dX7_layThen_14 : decode cX7_layThen 14 = .ok (.getfield 19, 3) := by decide +kernel
theorem dX7_layThen_17 : decode cX7_layThen 17 = .ok (.iload_n 1, 1) := by decide +kernel
theorem dX7_layThen_18 : decode cX7_layThen 18 = .ok (.iaload, 1) := by decide +kernel
theorem dX7_layThen_19 : decode cX7_layThen 19 = .ok (.iastore, 1) := by decide +kernel
theorem dX7_layThen_20 : decode cX7_layThen 20 = .ok (.iinc 1 1, 3) := by decide +kernel
theorem dX7_layThen_23 : decode cX7_layThen 23 = .ok (.goto (-21), 3) := by decide +kernel
theorem dX7_layThen_26 : decode cX7_layThen 26 = .ok (.return_, 1) := by decide +kernel
theorem dX7_warmBehind_0 : decode cX7_warmBehind 0 = .ok (.aload_n 0, 1) := by decide +kernel
theorem dX7_warmBehind_1 : decode cX7_warmBehind 1 = .ok (.aload_n 0, 1) := by decide +kernel
theorem dX7_warmBehind_2 : decode cX7_warmBehind 2 = .ok (.getfield 25, 3) := by decide +kernel
theorem dX7_warmBehind_5 : decode cX7_warmBehind 5 = .ok (.iload_n 2, 1) := by decide +kernel
theorem dX7_warmBehind_6 : decode cX7_warmBehind 6 = .ok (.invokevirtual 183, 3) := by decide +kernel
theorem dX7_warmBehind_9 : decode cX7_warmBehind 9 = .ok (.istore_n 3, 1) := by decide +kernel
theorem dX7_warmBehind_10 : decode cX7_warmBehind 10 = .ok (.aload_n 0, 1) := by decide +kernel
theorem dX7_warmBehind_11 : decode cX7_warmBehind 11 = .ok (.getfield 25, 3) := by decide +kernel
theorem dX7_warmBehind_14 : decode cX7_warmBehind 14 = .ok (.iload_n 1, 1) := by decide +kernel
theorem dX7_warmBehind_15 : decode cX7_warmBehind 15 = .ok (.iconst 3, 1) := by decide +kernel
theorem dX7_warmBehind_16 : decode cX7_warmBehind 16 = .ok (.invokestatic 163, 3) := by decide +kernel
theorem dX7_warmBehind_19 : decode cX7_warmBehind 19 = .ok (.ireturn, 1) := by decide +kernel
theorem dX7_sitting_0 : decode cX7_sitting 0 = .ok (.iconst 0, 1) := by decide +kernel
theorem dX7_sitting_1 : decode cX7_sitting 1 = .ok (.istore_n 1, 1) := by decide +kernel
theorem dX7_sitting_2 : decode cX7_sitting 2 = .ok (.iconst 0, 1) := by decide +kernel
theorem dX7_sitting_3 : decode cX7_sitting 3 = .ok (.istore_n 2, 1) := by decide +kernel
theorem dX7_sitting_4 : decode cX7_sitting 4 = .ok (.iload_n 2, 1) := by decide +kernel
theorem dX7_sitting_5 : decode cX7_sitting 5 = .ok (.aload_n 0, 1) := by decide +kernel
theorem dX7_sitting_6 : decode cX7_sitting 6 = .ok (.bipush 7, 2) := by decide +kernel
theorem dX7_sitting_8 : decode cX7_sitting 8 = .ok (.iaload, 1) := by decide +kernel
theorem dX7_sitting_9 : decode cX7_sitting 9 = .ok (.if_icmp .ge 20, 3) := by decide +kernel
theorem dX7_sitting_12 : decode cX7_sitting 12 = .ok (.iload_n 1, 1) := by decide +kernel
theorem dX7_sitting_13 : decode cX7_sitting 13 = .ok (.iconst 1, 1) := by decide +kernel
theorem dX7_sitting_14 : decode cX7_sitting 14 = .ok (.aload_n 0, 1) := by decide +kernel
theorem dX7_sitting_15 : decode cX7_sitting 15 = .ok (.bipush 8, 2) := by decide +kernel
theorem dX7_sitting_17 : decode cX7_sitting 17 = .ok (.iload_n 2, 1) := by decide +kernel
theorem dX7_sitting_18 : decode cX7_sitting 18 = .ok (.iadd, 1) := by decide +kernel
theorem dX7_sitting_19 : decode cX7_sitting 19 = .ok (.iaload, 1) := by decide +kernel
theorem dX7_sitting_20 : decode cX7_sitting 20 = .ok (.ishl, 1) := by decide +kernel
theorem dX7_sitting_21 : decode cX7_sitting 21 = .ok (.ior, 1) := by decide +kernel
theorem dX7_sitting_22 : decode cX7_sitting 22 = .ok (.istore_n 1, 1) := by decide +kernel
theorem dX7_sitting_23 : decode cX7_sitting 23 = .ok (.iinc 2 1, 3) := by decide +kernel
theorem dX7_sitting_26 : decode cX7_sitting 26 = .ok (.goto (-22), 3) := by decide +kernel
theorem dX7_sitting_29 : decode cX7_sitting 29 = .ok (.iload_n 1, 1) := by decide +kernel
theorem dX7_sitting_30 : decode cX7_sitting 30 = .ok (.ireturn, 1) := by decide +kernel
theorem dX7_keep_0 : decode cX7_keep 0 = .ok (.aload_n 0, 1) := by decide +kernel
theorem dX7_keep_1 : decode cX7_keep 1 = .ok (.getfield 149, 3) := by decide +kernel
theorem dX7_keep_4 : decode cX7_keep 4 = .ok (.bipush 24, 2) := by decide +kernel
theorem dX7_keep_6 : decode cX7_keep 6 = .ok (.if_icmp .ne 43, 3) := by decide +kernel
theorem dX7_keep_9 : decode cX7_keep 9 = .ok (.iconst 0, 1) := by decide +kernel
theorem dX7_keep_10 : decode cX7_keep 10 = .ok (.istore_n 1, 1) := by decide +kernel
theorem dX7_keep_11 : decode cX7_keep 11 = .ok (.iload_n 1, 1) := by decide +kernel
theorem dX7_keep_12 : decode cX7_keep 12 = .ok (.sipush 1150, 3) := by decide +kernel
theorem dX7_keep_15 : decode cX7_keep 15 = .ok (.if_icmp .ge 24, 3) := by decide +kernel
theorem dX7_keep_18 : decode cX7_keep 18 = .ok (.aload_n 0, 1) := by decide +kernel
theorem dX7_keep_19 : decode cX7_keep 19 = .ok (.getfield 28, 3) := by decide +kernel
theorem dX7_keep_22 : decode cX7_keep 22 = .ok (.iload_n 1, 1) := by decide +kernel
theorem dX7_keep_23 : decode cX7_keep 23 = .ok (.aload_n 0, 1) := by decide +kernel
theorem dX7_keep_24 : decode cX7_keep 24 = .ok (.getfield 28, 3) := by decide +kernel
theorem dX7_keep_27 : decode cX7_keep 27 = .ok (.iload_n 1, 1) := by decide +kernel
theorem dX7_keep_28 : decode cX7_keep 28 = .ok (.bipush 50, 2) := by decide +kernel
theorem dX7_keep_30 : decode cX7_keep 30 = .ok (.iadd, 1) := by decide +kernel
theorem dX7_keep_31 : decode cX7_keep 31 = .ok (.iaload, 1) := by decide +kernel
theorem dX7_keep_32 : decode cX7_keep 32 = .ok (.iastore, 1) := by decide +kernel
theorem dX7_keep_33 : decode cX7_keep 33 = .ok (.iinc 1 1, 3) := by decide +kernel
theorem dX7_keep_36 : decode cX7_keep 36 = .ok (.goto (-25), 3) := by decide +kernel
theorem dX7_keep_39 : decode cX7_keep 39 = .ok (.aload_n 0, 1) := by decide +kernel
theorem dX7_keep_40 : decode cX7_keep 40 = .ok (.dup, 1) := by decide +kernel
theorem dX7_keep_41 : decode cX7_keep 41 = .ok (.getfield 149, 3) := by decide +kernel
theorem dX7_keep_44 : decode cX7_keep 44 = .ok (.iconst 1, 1) := by decide +kernel
theorem dX7_keep_45 : decode cX7_keep 45 = .ok (.isub, 1) := by decide +kernel
theorem dX7_keep_46 : decode cX7_keep 46 = .ok (.putfield 149, 3) := by decide +kernel
theorem dX7_keep_49 : decode cX7_keep 49 = .ok (.iconst 0, 1) := by decide +kernel
theorem dX7_keep_50 : decode cX7_keep 50 = .ok (.istore_n 1, 1) := by decide +kernel
theorem dX7_keep_51 : decode cX7_keep 51 = .ok (.iload_n 1, 1) := by decide +kernel
theorem dX7_keep_52 : decode cX7_keep 52 = .ok (.bipush 50, 2) := by decide +kernel
theorem dX7_keep_54 : decode cX7_keep 54 = .ok (.if_icmp .ge 29, 3) := by decide +kernel
theorem dX7_keep_57 : decode cX7_keep 57 = .ok (.aload_n 0, 1) := by decide +kernel
theorem dX7_keep_58 : decode cX7_keep 58 = .ok (.getfield 28, 3) := by decide +kernel
theorem dX7_keep_61 : decode cX7_keep 61 = .ok (.bipush 50, 2) := by decide +kernel
theorem dX7_keep_63 : decode cX7_keep 63 = .ok (.aload_n 0, 1) := by decide +kernel
theorem dX7_keep_64 : decode cX7_keep 64 = .ok (.getfield 149, 3) := by decide +kernel
theorem dX7_keep_67 : decode cX7_keep 67 = .ok (.imul, 1) := by decide +kernel
theorem dX7_keep_68 : decode cX7_keep 68 = .ok (.iload_n 1, 1) := by decide +kernel
theorem dX7_keep_69 : decode cX7_keep 69 = .ok (.iadd, 1) := by decide +kernel
theorem dX7_keep_70 : decode cX7_keep 70 = .ok (.aload_n 0, 1) := by decide +kernel
theorem dX7_keep_71 : decode cX7_keep 71 = .ok (.getfield 19, 3) := by decide +kernel
theorem dX7_keep_74 : decode cX7_keep 74 = .ok (.iload_n 1, 1) := by decide +kernel
theorem dX7_keep_75 : decode cX7_keep 75 = .ok (.iaload, 1) := by decide +kernel
theorem dX7_keep_76 : decode cX7_keep 76 = .ok (.iastore, 1) := by decide +kernel
theorem dX7_keep_77 : decode cX7_keep 77 = .ok (.iinc 1 1, 3) := by decide +kernel
theorem dX7_keep_80 : decode cX7_keep 80 = .ok (.goto (-29), 3) := by decide +kernel
theorem dX7_keep_83 : decode cX7_keep 83 = .ok (.aload_n 0, 1) := by decide +kernel
theorem dX7_keep_84 : decode cX7_keep 84 = .ok (.dup, 1) := by decide +kernel
theorem dX7_keep_85 : decode cX7_keep 85 = .ok (.getfield 149, 3) := by decide +kernel
theorem dX7_keep_88 : decode cX7_keep 88 = .ok (.iconst 1, 1) := by decide +kernel
theorem dX7_keep_89 : decode cX7_keep 89 = .ok (.iadd, 1) := by decide +kernel
theorem dX7_keep_90 : decode cX7_keep 90 = .ok (.putfield 149, 3) := by decide +kernel
theorem dX7_keep_93 : decode cX7_keep 93 = .ok (.return_, 1) := by decide +kernel
theorem dX7_hours_0 : decode cX7_hours 0 = .ok (.aload_n 0, 1) := by decide +kernel
theorem dX7_hours_1 : decode cX7_hours 1 = .ok (.iconst 0, 1) := by decide +kernel
theorem dX7_hours_2 : decode cX7_hours 2 = .ok (.putfield 50, 3) := by decide +kernel
theorem dX7_hours_5 : decode cX7_hours 5 = .ok (.aload_n 0, 1) := by decide +kernel
theorem dX7_hours_6 : decode cX7_hours 6 = .ok (.invokevirtual 186, 3) := by decide +kernel
theorem dX7_hours_9 : decode cX7_hours 9 = .ok (.ifCond .ne 6, 3) := by decide +kernel
theorem dX7_hours_12 : decode cX7_hours 12 = .ok (.ldc 189, 2) := by decide +kernel
theorem dX7_hours_14 : decode cX7_hours 14 = .ok (.ireturn, 1) := by decide +kernel
theorem dX7_hours_15 : decode cX7_hours 15 = .ok (.iload_n 1, 1) := by decide +kernel
theorem dX7_hours_16 : decode cX7_hours 16 = .ok (.i2l, 1) := by decide +kernel
theorem dX7_hours_17 : decode cX7_hours 17 = .ok (.lconst 1, 1) := by decide +kernel
theorem dX7_hours_18 : decode cX7_hours 18 = .ok (.ldc2_w 190, 3) := by decide +kernel
theorem dX7_hours_21 : decode cX7_hours 21 = .ok (.invokestatic 60, 3) := by decide +kernel
theorem dX7_hours_24 : decode cX7_hours 24 = .ok (.ifCond .ne 6, 3) := by decide +kernel
theorem dX7_hours_27 : decode cX7_hours 27 = .ok (.ldc 70, 2) := by decide +kernel
theorem dX7_hours_29 : decode cX7_hours 29 = .ok (.ireturn, 1) := by decide +kernel
theorem dX7_hours_30 : decode cX7_hours 30 = .ok (.aload_n 0, 1) := by decide +kernel
theorem dX7_hours_31 : decode cX7_hours 31 = .ok (.getfield 19, 3) := by decide +kernel
theorem dX7_hours_34 : decode cX7_hours 34 = .ok (.iconst 4, 1) := by decide +kernel
theorem dX7_hours_35 : decode cX7_hours 35 = .ok (.iaload, 1) := by decide +kernel
theorem dX7_hours_36 : decode cX7_hours 36 = .ok (.iload_n 1, 1) := by decide +kernel
theorem dX7_hours_37 : decode cX7_hours 37 = .ok (.iadd, 1) := by decide +kernel
theorem dX7_hours_38 : decode cX7_hours 38 = .ok (.sipush 999, 3) := by decide +kernel
theorem dX7_hours_41 : decode cX7_hours 41 = .ok (.if_icmp .le 6, 3) := by decide +kernel
theorem dX7_hours_44 : decode cX7_hours 44 = .ok (.ldc 80, 2) := by decide +kernel
theorem dX7_hours_46 : decode cX7_hours 46 = .ok (.ireturn, 1) := by decide +kernel
theorem dX7_hours_47 : decode cX7_hours 47 = .ok (.iconst 0, 1) := by decide +kernel
theorem dX7_hours_48 : decode cX7_hours 48 = .ok (.istore_n 2, 1) := by decide +kernel
theorem dX7_hours_49 : decode cX7_hours 49 = .ok (.iload_n 2, 1) := by decide +kernel
theorem dX7_hours_50 : decode cX7_hours 50 = .ok (.iload_n 1, 1) := by decide +kernel
theorem dX7_hours_51 : decode cX7_hours 51 = .ok (.if_icmp .ge 23, 3) := by decide +kernel
theorem dX7_hours_54 : decode cX7_hours 54 = .ok (.aload_n 0, 1) := by decide +kernel
theorem dX7_hours_55 : decode cX7_hours 55 = .ok (.invokevirtual 192, 3) := by decide +kernel
theorem dX7_hours_58 : decode cX7_hours 58 = .ok (.aload_n 0, 1) := by decide +kernel
theorem dX7_hours_59 : decode cX7_hours 59 = .ok (.aload_n 0, 1) := by decide +kernel
theorem dX7_hours_60 : decode cX7_hours 60 = .ok (.getfield 19, 3) := by decide +kernel
theorem dX7_hours_63 : decode cX7_hours 63 = .ok (.iconst 0, 1) := by decide +kernel
theorem dX7_hours_64 : decode cX7_hours 64 = .ok (.invokevirtual 180, 3) := by decide +kernel
theorem dX7_hours_67 : decode cX7_hours 67 = .ok (.istore_n 3, 1) := by decide +kernel
theorem dX7_hours_68 : decode cX7_hours 68 = .ok (.iinc 2 1, 3) := by decide +kernel
theorem dX7_hours_71 : decode cX7_hours 71 = .ok (.goto (-22), 3) := by decide +kernel
theorem dX7_hours_74 : decode cX7_hours 74 = .ok (.aload_n 0, 1) := by decide +kernel
theorem dX7_hours_75 : decode cX7_hours 75 = .ok (.getfield 19, 3) := by decide +kernel
theorem dX7_hours_78 : decode cX7_hours 78 = .ok (.invokestatic 195, 3) := by decide +kernel
theorem dX7_hours_81 : decode cX7_hours 81 = .ok (.ireturn, 1) := by decide +kernel
theorem dX7_snuff_0 : decode cX7_snuff 0 = .ok (.aload_n 0, 1) := by decide +kernel
theorem dX7_snuff_1 : decode cX7_snuff 1 = .ok (.iconst 0, 1) := by decide +kernel
theorem dX7_snuff_2 : decode cX7_snuff 2 = .ok (.putfield 50, 3) := by decide +kernel
theorem dX7_snuff_5 : decode cX7_snuff 5 = .ok (.aload_n 0, 1) := by decide +kernel
theorem dX7_snuff_6 : decode cX7_snuff 6 = .ok (.iload_n 1, 1) := by decide +kernel
theorem dX7_snuff_7 : decode cX7_snuff 7 = .ok (.invokevirtual 199, 3) := by decide +kernel
theorem dX7_snuff_10 : decode cX7_snuff 10 = .ok (.ifCond .ne 6, 3) := by decide +kernel
theorem dX7_snuff_13 : decode cX7_snuff 13 = .ok (.ldc 70, 2) := by decide +kernel
theorem dX7_snuff_15 : decode cX7_snuff 15 = .ok (.ireturn, 1) := by decide +kernel
theorem dX7_snuff_16 : decode cX7_snuff 16 = .ok (.aload_n 0, 1) := by decide +kernel
theorem dX7_snuff_17 : decode cX7_snuff 17 = .ok (.getfield 19, 3) := by decide +kernel
theorem dX7_snuff_20 : decode cX7_snuff 20 = .ok (.iload_n 1, 1) := by decide +kernel
theorem dX7_snuff_21 : decode cX7_snuff 21 = .ok (.invokestatic 156, 3) := by decide +kernel
theorem dX7_snuff_24 : decode cX7_snuff 24 = .ok (.iconst 1, 1) := by decide +kernel
theorem dX7_snuff_25 : decode cX7_snuff 25 = .ok (.if_icmp .ge 6, 3) := by decide +kernel
theorem dX7_snuff_28 : decode cX7_snuff 28 = .ok (.ldc 189, 2) := by decide +kernel
theorem dX7_snuff_30 : decode cX7_snuff 30 = .ok (.ireturn, 1) := by decide +kernel
theorem dX7_snuff_31 : decode cX7_snuff 31 = .ok (.aload_n 0, 1) := by decide +kernel
theorem dX7_snuff_32 : decode cX7_snuff 32 = .ok (.invokevirtual 192, 3) := by decide +kernel
theorem dX7_snuff_35 : decode cX7_snuff 35 = .ok (.aload_n 0, 1) := by decide +kernel
theorem dX7_snuff_36 : decode cX7_snuff 36 = .ok (.getfield 19, 3) := by decide +kernel
theorem dX7_snuff_39 : decode cX7_snuff 39 = .ok (.iload_n 1, 1) := by decide +kernel
theorem dX7_snuff_40 : decode cX7_snuff 40 = .ok (.invokestatic 202, 3) := by decide +kernel
theorem dX7_snuff_43 : decode cX7_snuff 43 = .ok (.aload_n 0, 1) := by decide +kernel
theorem dX7_snuff_44 : decode cX7_snuff 44 = .ok (.getfield 19, 3) := by decide +kernel
theorem dX7_snuff_47 : decode cX7_snuff 47 = .ok (.bipush 6, 2) := by decide +kernel
theorem dX7_snuff_49 : decode cX7_snuff 49 = .ok (.dup2, 1) := by decide +kernel
theorem dX7_snuff_50 : decode cX7_snuff 50 = .ok (.iaload, 1) := by decide +kernel
theorem dX7_snuff_51 : decode cX7_snuff 51 = .ok (.iconst 1, 1) := by decide +kernel
theorem dX7_snuff_52 : decode cX7_snuff 52 = .ok (.iadd, 1) := by decide +kernel
theorem dX7_snuff_53 : decode cX7_snuff 53 = .ok (.iastore, 1) := by decide +kernel
theorem dX7_snuff_54 : decode cX7_snuff 54 = .ok (.aload_n 0, 1) := by decide +kernel
theorem dX7_snuff_55 : decode cX7_snuff 55 = .ok (.getfield 19, 3) := by decide +kernel
theorem dX7_snuff_58 : decode cX7_snuff 58 = .ok (.iload_n 1, 1) := by decide +kernel
theorem dX7_snuff_59 : decode cX7_snuff 59 = .ok (.invokestatic 156, 3) := by decide +kernel
theorem dX7_snuff_62 : decode cX7_snuff 62 = .ok (.ireturn, 1) := by decide +kernel
theorem dX7_leave_0 : decode cX7_leave 0 = .ok (.aload_n 0, 1) := by decide +kernel
theorem dX7_leave_1 : decode cX7_leave 1 = .ok (.iconst 0, 1) := by decide +kernel
theorem dX7_leave_2 : decode cX7_leave 2 = .ok (.putfield 50, 3) := by decide +kernel
theorem dX7_leave_5 : decode cX7_leave 5 = .ok (.aload_n 0, 1) := by decide +kernel
theorem dX7_leave_6 : decode cX7_leave 6 = .ok (.iload_n 1, 1) := by decide +kernel
theorem dX7_leave_7 : decode cX7_leave 7 = .ok (.invokevirtual 199, 3) := by decide +kernel
theorem dX7_leave_10 : decode cX7_leave 10 = .ok (.ifCond .ne 6, 3) := by decide +kernel
theorem dX7_leave_13 : decode cX7_leave 13 = .ok (.ldc 70, 2) := by decide +kernel
theorem dX7_leave_15 : decode cX7_leave 15 = .ok (.ireturn, 1) := by decide +kernel
theorem dX7_leave_16 : decode cX7_leave 16 = .ok (.aload_n 0, 1) := by decide +kernel
theorem dX7_leave_17 : decode cX7_leave 17 = .ok (.getfield 19, 3) := by decide +kernel
theorem dX7_leave_20 : decode cX7_leave 20 = .ok (.iload_n 1, 1) := by decide +kernel
theorem dX7_leave_21 : decode cX7_leave 21 = .ok (.iconst 4, 1) := by decide +kernel
theorem dX7_leave_22 : decode cX7_leave 22 = .ok (.invokestatic 163, 3) := by decide +kernel
theorem dX7_leave_25 : decode cX7_leave 25 = .ok (.ifCond .ge 6, 3) := by decide +kernel
theorem dX7_leave_28 : decode cX7_leave 28 = .ok (.ldc 189, 2) := by decide +kernel
theorem dX7_leave_30 : decode cX7_leave 30 = .ok (.ireturn, 1) := by decide +kernel
theorem dX7_leave_31 : decode cX7_leave 31 = .ok (.aload_n 0, 1) := by decide +kernel
theorem dX7_leave_32 : decode cX7_leave 32 = .ok (.invokevirtual 192, 3) := by decide +kernel
theorem dX7_leave_35 : decode cX7_leave 35 = .ok (.aload_n 0, 1) := by decide +kernel
theorem dX7_leave_36 : decode cX7_leave 36 = .ok (.getfield 19, 3) := by decide +kernel
theorem dX7_leave_39 : decode cX7_leave 39 = .ok (.iload_n 1, 1) := by decide +kernel
theorem dX7_leave_40 : decode cX7_leave 40 = .ok (.iconst (-1), 1) := by decide +kernel
theorem dX7_leave_41 : decode cX7_leave 41 = .ok (.invokestatic 177, 3) := by decide +kernel
theorem dX7_leave_44 : decode cX7_leave 44 = .ok (.aload_n 0, 1) := by decide +kernel
theorem dX7_leave_45 : decode cX7_leave 45 = .ok (.getfield 19, 3) := by decide +kernel
theorem dX7_leave_48 : decode cX7_leave 48 = .ok (.bipush 7, 2) := by decide +kernel
theorem dX7_leave_50 : decode cX7_leave 50 = .ok (.iaload, 1) := by decide +kernel
theorem dX7_leave_51 : decode cX7_leave 51 = .ok (.ireturn, 1) := by decide +kernel
theorem dX7_come_0 : decode cX7_come 0 = .ok (.aload_n 0, 1) := by decide +kernel
theorem dX7_come_1 : decode cX7_come 1 = .ok (.iconst 0, 1) := by decide +kernel
theorem dX7_come_2 : decode cX7_come 2 = .ok (.putfield 50, 3) := by decide +kernel
theorem dX7_come_5 : decode cX7_come 5 = .ok (.aload_n 0, 1) := by decide +kernel
theorem dX7_come_6 : decode cX7_come 6 = .ok (.iload_n 1, 1) := by decide +kernel
theorem dX7_come_7 : decode cX7_come 7 = .ok (.invokevirtual 199, 3) := by decide +kernel
theorem dX7_come_10 : decode cX7_come 10 = .ok (.ifCond .ne 6, 3) := by decide +kernel
theorem dX7_come_13 : decode cX7_come 13 = .ok (.ldc 70, 2) := by decide +kernel
theorem dX7_come_15 : decode cX7_come 15 = .ok (.ireturn, 1) := by decide +kernel
theorem dX7_come_16 : decode cX7_come 16 = .ok (.aload_n 0, 1) := by decide +kernel
theorem dX7_come_17 : decode cX7_come 17 = .ok (.getfield 19, 3) := by decide +kernel
theorem dX7_come_20 : decode cX7_come 20 = .ok (.iload_n 1, 1) := by decide +kernel
theorem dX7_come_21 : decode cX7_come 21 = .ok (.iconst 4, 1) := by decide +kernel
theorem dX7_come_22 : decode cX7_come 22 = .ok (.invokestatic 163, 3) := by decide +kernel
theorem dX7_come_25 : decode cX7_come 25 = .ok (.ifCond .lt 6, 3) := by decide +kernel
theorem dX7_come_28 : decode cX7_come 28 = .ok (.ldc 189, 2) := by decide +kernel
theorem dX7_come_30 : decode cX7_come 30 = .ok (.ireturn, 1) := by decide +kernel
theorem dX7_come_31 : decode cX7_come 31 = .ok (.aload_n 0, 1) := by decide +kernel
theorem dX7_come_32 : decode cX7_come 32 = .ok (.invokevirtual 192, 3) := by decide +kernel
theorem dX7_come_35 : decode cX7_come 35 = .ok (.aload_n 0, 1) := by decide +kernel
theorem dX7_come_36 : decode cX7_come 36 = .ok (.getfield 19, 3) := by decide +kernel
theorem dX7_come_39 : decode cX7_come 39 = .ok (.iload_n 1, 1) := by decide +kernel
theorem dX7_come_40 : decode cX7_come 40 = .ok (.aload_n 0, 1) := by decide +kernel
theorem dX7_come_41 : decode cX7_come 41 = .ok (.getfield 19, 3) := by decide +kernel
theorem dX7_come_44 : decode cX7_come 44 = .ok (.bipush 7, 2) := by decide +kernel
theorem dX7_come_46 : decode cX7_come 46 = .ok (.iaload, 1) := by decide +kernel
theorem dX7_come_47 : decode cX7_come 47 = .ok (.invokestatic 170, 3) := by decide +kernel
theorem dX7_come_50 : decode cX7_come 50 = .ok (.aload_n 0, 1) := by decide +kernel
theorem dX7_come_51 : decode cX7_come 51 = .ok (.getfield 19, 3) := by decide +kernel
theorem dX7_come_54 : decode cX7_come 54 = .ok (.iload_n 1, 1) := by decide +kernel
theorem dX7_come_55 : decode cX7_come 55 = .ok (.invokestatic 156, 3) := by decide +kernel
theorem dX7_come_58 : decode cX7_come 58 = .ok (.ireturn, 1) := by decide +kernel
theorem dX7_june_0 : decode cX7_june 0 = .ok (.aload_n 0, 1) := by decide +kernel
theorem dX7_june_1 : decode cX7_june 1 = .ok (.iconst 0, 1) := by decide +kernel
theorem dX7_june_2 : decode cX7_june 2 = .ok (.putfield 50, 3) := by decide +kernel
