theorem dX7_june_5 : decode cX7_june 5 = .ok (.aload_n 0, 1) := by decide +kernel
theorem dX7_june_6 : decode cX7_june 6 = .ok (.invokevirtual 186, 3) := by decide +kernel
theorem dX7_june_9 : decode cX7_june 9 = .ok (.ifCond .ne 6, 3) := by decide +kernel
theorem dX7_june_12 : decode cX7_june 12 = .ok (.ldc 189, 2) := by decide +kernel
theorem dX7_june_14 : decode cX7_june 14 = .ok (.ireturn, 1) := by decide +kernel
theorem dX7_june_15 : decode cX7_june 15 = .ok (.iload_n 1, 1) := by decide +kernel
theorem dX7_june_16 : decode cX7_june 16 = .ok (.i2l, 1) := by decide +kernel
theorem dX7_june_17 : decode cX7_june 17 = .ok (.lconst 0, 1) := by decide +kernel
theorem dX7_june_18 : decode cX7_june 18 = .ok (.lconst 1, 1) := by decide +kernel
theorem dX7_june_19 : decode cX7_june 19 = .ok (.invokestatic 60, 3) := by decide +kernel
theorem dX7_june_22 : decode cX7_june 22 = .ok (.ifCond .ne 6, 3) := by decide +kernel
theorem dX7_june_25 : decode cX7_june 25 = .ok (.ldc 70, 2) := by decide +kernel
theorem dX7_june_27 : decode cX7_june 27 = .ok (.ireturn, 1) := by decide +kernel
theorem dX7_june_28 : decode cX7_june 28 = .ok (.aload_n 0, 1) := by decide +kernel
theorem dX7_june_29 : decode cX7_june 29 = .ok (.getfield 19, 3) := by decide +kernel
theorem dX7_june_32 : decode cX7_june 32 = .ok (.iconst 5, 1) := by decide +kernel
theorem dX7_june_33 : decode cX7_june 33 = .ok (.iaload, 1) := by decide +kernel
theorem dX7_june_34 : decode cX7_june 34 = .ok (.iload_n 1, 1) := by decide +kernel
theorem dX7_june_35 : decode cX7_june 35 = .ok (.if_icmp .ne 6, 3) := by decide +kernel
theorem dX7_june_38 : decode cX7_june 38 = .ok (.ldc 189, 2) := by decide +kernel
theorem dX7_june_40 : decode cX7_june 40 = .ok (.ireturn, 1) := by decide +kernel
theorem dX7_june_41 : decode cX7_june 41 = .ok (.aload_n 0, 1) := by decide +kernel
theorem dX7_june_42 : decode cX7_june 42 = .ok (.invokevirtual 192, 3) := by decide +kernel
theorem dX7_june_45 : decode cX7_june 45 = .ok (.aload_n 0, 1) := by decide +kernel
theorem dX7_june_46 : decode cX7_june 46 = .ok (.getfield 19, 3) := by decide +kernel
theorem dX7_june_49 : decode cX7_june 49 = .ok (.iconst 5, 1) := by decide +kernel
theorem dX7_june_50 : decode cX7_june 50 = .ok (.iload_n 1, 1) := by decide +kernel
theorem dX7_june_51 : decode cX7_june 51 = .ok (.iastore, 1) := by decide +kernel
theorem dX7_june_52 : decode cX7_june 52 = .ok (.iconst 0, 1) := by decide +kernel
theorem dX7_june_53 : decode cX7_june 53 = .ok (.istore_n 2, 1) := by decide +kernel
theorem dX7_june_54 : decode cX7_june 54 = .ok (.iconst 0, 1) := by decide +kernel
theorem dX7_june_55 : decode cX7_june 55 = .ok (.istore_n 3, 1) := by decide +kernel
theorem dX7_june_56 : decode cX7_june 56 = .ok (.iload_n 3, 1) := by decide +kernel
theorem dX7_june_57 : decode cX7_june 57 = .ok (.aload_n 0, 1) := by decide +kernel
theorem dX7_june_58 : decode cX7_june 58 = .ok (.getfield 19, 3) := by decide +kernel
theorem dX7_june_61 : decode cX7_june 61 = .ok (.iconst 3, 1) := by decide +kernel
theorem dX7_june_62 : decode cX7_june 62 = .ok (.iaload, 1) := by decide +kernel
theorem dX7_june_63 : decode cX7_june 63 = .ok (.if_icmp .ge 30, 3) := by decide +kernel
theorem dX7_june_66 : decode cX7_june 66 = .ok (.iload_n 2, 1) := by decide +kernel
theorem dX7_june_67 : decode cX7_june 67 = .ok (.aload_n 0, 1) := by decide +kernel
theorem dX7_june_68 : decode cX7_june 68 = .ok (.getfield 19, 3) := by decide +kernel
theorem dX7_june_71 : decode cX7_june 71 = .ok (.iload_n 3, 1) := by decide +kernel
theorem dX7_june_72 : decode cX7_june 72 = .ok (.invokestatic 167, 3) := by decide +kernel
theorem dX7_june_75 : decode cX7_june 75 = .ok (.ifCond .eq 9, 3) := by decide +kernel
theorem dX7_june_78 : decode cX7_june 78 = .ok (.iconst 1, 1) := by decide +kernel
theorem dX7_june_79 : decode cX7_june 79 = .ok (.iload_n 3, 1) := by decide +kernel
theorem dX7_june_80 : decode cX7_june 80 = .ok (.ishl, 1) := by decide +kernel
theorem dX7_june_81 : decode cX7_june 81 = .ok (.goto 4, 3) := by decide +kernel
theorem dX7_june_84 : decode cX7_june 84 = .ok (.iconst 0, 1) := by decide +kernel
theorem dX7_june_85 : decode cX7_june 85 = .ok (.ior, 1) := by decide +kernel
theorem dX7_june_86 : decode cX7_june 86 = .ok (.istore_n 2, 1) := by decide +kernel
theorem dX7_june_87 : decode cX7_june 87 = .ok (.iinc 3 1, 3) := by decide +kernel
theorem dX7_june_90 : decode cX7_june 90 = .ok (.goto (-34), 3) := by decide +kernel
theorem dX7_june_93 : decode cX7_june 93 = .ok (.iload_n 2, 1) := by decide +kernel
theorem dX7_june_94 : decode cX7_june 94 = .ok (.ireturn, 1) := by decide +kernel
theorem dX7_undo_0 : decode cX7_undo 0 = .ok (.aload_n 0, 1) := by decide +kernel
theorem dX7_undo_1 : decode cX7_undo 1 = .ok (.iconst 0, 1) := by decide +kernel
theorem dX7_undo_2 : decode cX7_undo 2 = .ok (.putfield 50, 3) := by decide +kernel
theorem dX7_undo_5 : decode cX7_undo 5 = .ok (.aload_n 0, 1) := by decide +kernel
theorem dX7_undo_6 : decode cX7_undo 6 = .ok (.getfield 149, 3) := by decide +kernel
theorem dX7_undo_9 : decode cX7_undo 9 = .ok (.ifCond .ne 6, 3) := by decide +kernel
theorem dX7_undo_12 : decode cX7_undo 12 = .ok (.ldc 189, 2) := by decide +kernel
theorem dX7_undo_14 : decode cX7_undo 14 = .ok (.ireturn, 1) := by decide +kernel
theorem dX7_undo_15 : decode cX7_undo 15 = .ok (.aload_n 0, 1) := by decide +kernel
theorem dX7_undo_16 : decode cX7_undo 16 = .ok (.dup, 1) := by decide +kernel
theorem dX7_undo_17 : decode cX7_undo 17 = .ok (.getfield 149, 3) := by decide +kernel
theorem dX7_undo_20 : decode cX7_undo 20 = .ok (.iconst 1, 1) := by decide +kernel
theorem dX7_undo_21 : decode cX7_undo 21 = .ok (.isub, 1) := by decide +kernel
theorem dX7_undo_22 : decode cX7_undo 22 = .ok (.putfield 149, 3) := by decide +kernel
theorem dX7_undo_25 : decode cX7_undo 25 = .ok (.iconst 0, 1) := by decide +kernel
theorem dX7_undo_26 : decode cX7_undo 26 = .ok (.istore_n 1, 1) := by decide +kernel
theorem dX7_undo_27 : decode cX7_undo 27 = .ok (.iload_n 1, 1) := by decide +kernel
theorem dX7_undo_28 : decode cX7_undo 28 = .ok (.bipush 50, 2) := by decide +kernel
theorem dX7_undo_30 : decode cX7_undo 30 = .ok (.if_icmp .ge 29, 3) := by decide +kernel
theorem dX7_undo_33 : decode cX7_undo 33 = .ok (.aload_n 0, 1) := by decide +kernel
theorem dX7_undo_34 : decode cX7_undo 34 = .ok (.getfield 19, 3) := by decide +kernel
theorem dX7_undo_37 : decode cX7_undo 37 = .ok (.iload_n 1, 1) := by decide +kernel
theorem dX7_undo_38 : decode cX7_undo 38 = .ok (.aload_n 0, 1) := by decide +kernel
theorem dX7_undo_39 : decode cX7_undo 39 = .ok (.getfield 28, 3) := by decide +kernel
theorem dX7_undo_42 : decode cX7_undo 42 = .ok (.bipush 50, 2) := by decide +kernel
theorem dX7_undo_44 : decode cX7_undo 44 = .ok (.aload_n 0, 1) := by decide +kernel
theorem dX7_undo_45 : decode cX7_undo 45 = .ok (.getfield 149, 3) := by decide +kernel
theorem dX7_undo_48 : decode cX7_undo 48 = .ok (.imul, 1) := by decide +kernel
theorem dX7_undo_49 : decode cX7_undo 49 = .ok (.iload_n 1, 1) := by decide +kernel
theorem dX7_undo_50 : decode cX7_undo 50 = .ok (.iadd, 1) := by decide +kernel
theorem dX7_undo_51 : decode cX7_undo 51 = .ok (.iaload, 1) := by decide +kernel
theorem dX7_undo_52 : decode cX7_undo 52 = .ok (.iastore, 1) := by decide +kernel
theorem dX7_undo_53 : decode cX7_undo 53 = .ok (.iinc 1 1, 3) := by decide +kernel
theorem dX7_undo_56 : decode cX7_undo 56 = .ok (.goto (-29), 3) := by decide +kernel
theorem dX7_undo_59 : decode cX7_undo 59 = .ok (.aload_n 0, 1) := by decide +kernel
theorem dX7_undo_60 : decode cX7_undo 60 = .ok (.getfield 149, 3) := by decide +kernel
theorem dX7_undo_63 : decode cX7_undo 63 = .ok (.ireturn, 1) := by decide +kernel
theorem dX7_man_0 : decode cX7_man 0 = .ok (.aload_n 0, 1) := by decide +kernel
theorem dX7_man_1 : decode cX7_man 1 = .ok (.iconst 0, 1) := by decide +kernel
theorem dX7_man_2 : decode cX7_man 2 = .ok (.putfield 50, 3) := by decide +kernel
theorem dX7_man_5 : decode cX7_man 5 = .ok (.aload_n 0, 1) := by decide +kernel
theorem dX7_man_6 : decode cX7_man 6 = .ok (.iload_n 1, 1) := by decide +kernel
theorem dX7_man_7 : decode cX7_man 7 = .ok (.invokevirtual 199, 3) := by decide +kernel
theorem dX7_man_10 : decode cX7_man 10 = .ok (.ifCond .ne 6, 3) := by decide +kernel
theorem dX7_man_13 : decode cX7_man 13 = .ok (.ldc 70, 2) := by decide +kernel
theorem dX7_man_15 : decode cX7_man 15 = .ok (.ireturn, 1) := by decide +kernel
theorem dX7_man_16 : decode cX7_man 16 = .ok (.iload_n 2, 1) := by decide +kernel
theorem dX7_man_17 : decode cX7_man 17 = .ok (.tableswitch 129 0 5 #[39, 48, 58, 92, 109, 119], 39) := by decide +kernel
theorem dX7_man_56 : decode cX7_man 56 = .ok (.aload_n 0, 1) := by decide +kernel
theorem dX7_man_57 : decode cX7_man 57 = .ok (.getfield 19, 3) := by decide +kernel
theorem dX7_man_60 : decode cX7_man 60 = .ok (.iload_n 1, 1) := by decide +kernel
theorem dX7_man_61 : decode cX7_man 61 = .ok (.invokestatic 156, 3) := by decide +kernel
theorem dX7_man_64 : decode cX7_man 64 = .ok (.ireturn, 1) := by decide +kernel
theorem dX7_man_65 : decode cX7_man 65 = .ok (.aload_n 0, 1) := by decide +kernel
theorem dX7_man_66 : decode cX7_man 66 = .ok (.getfield 19, 3) := by decide +kernel
theorem dX7_man_69 : decode cX7_man 69 = .ok (.iload_n 1, 1) := by decide +kernel
theorem dX7_man_70 : decode cX7_man 70 = .ok (.iconst 3, 1) := by decide +kernel
theorem dX7_man_71 : decode cX7_man 71 = .ok (.invokestatic 163, 3) := by decide +kernel
theorem dX7_man_74 : decode cX7_man 74 = .ok (.ireturn, 1) := by decide +kernel
theorem dX7_man_75 : decode cX7_man 75 = .ok (.aload_n 0, 1) := by decide +kernel
theorem dX7_man_76 : decode cX7_man 76 = .ok (.getfield 19, 3) := by decide +kernel
theorem dX7_man_79 : decode cX7_man 79 = .ok (.iload_n 1, 1) := by decide +kernel
theorem dX7_man_80 : decode cX7_man 80 = .ok (.iconst 4, 1) := by decide +kernel
theorem dX7_man_81 : decode cX7_man 81 = .ok (.invokestatic 163, 3) := by decide +kernel
theorem dX7_man_84 : decode cX7_man 84 = .ok (.ifCond .le 22, 3) := by decide +kernel
theorem dX7_man_87 : decode cX7_man 87 = .ok (.aload_n 0, 1) := by decide +kernel
theorem dX7_man_88 : decode cX7_man 88 = .ok (.getfield 19, 3) := by decide +kernel
theorem dX7_man_91 : decode cX7_man 91 = .ok (.iload_n 1, 1) := by decide +kernel
theorem dX7_man_92 : decode cX7_man 92 = .ok (.iconst 4, 1) := by decide +kernel
theorem dX7_man_93 : decode cX7_man 93 = .ok (.invokestatic 163, 3) := by decide +kernel
theorem dX7_man_96 : decode cX7_man 96 = .ok (.aload_n 0, 1) := by decide +kernel
theorem dX7_man_97 : decode cX7_man 97 = .ok (.getfield 19, 3) := by decide +kernel
theorem dX7_man_100 : decode cX7_man 100 = .ok (.iconst 4, 1) := by decide +kernel
theorem dX7_man_101 : decode cX7_man 101 = .ok (.iaload, 1) := by decide +kernel
theorem dX7_man_102 : decode cX7_man 102 = .ok (.isub, 1) := by decide +kernel
theorem dX7_man_103 : decode cX7_man 103 = .ok (.goto 5, 3) := by decide +kernel
theorem dX7_man_106 : decode cX7_man 106 = .ok (.ldc 93, 2) := by decide +kernel
theorem dX7_man_108 : decode cX7_man 108 = .ok (.ireturn, 1) := by decide +kernel
theorem dX7_man_109 : decode cX7_man 109 = .ok (.aload_n 0, 1) := by decide +kernel
theorem dX7_man_110 : decode cX7_man 110 = .ok (.getfield 19, 3) := by decide +kernel
theorem dX7_man_113 : decode cX7_man 113 = .ok (.iload_n 1, 1) := by decide +kernel
theorem dX7_man_114 : decode cX7_man 114 = .ok (.invokestatic 167, 3) := by decide +kernel
theorem dX7_man_117 : decode cX7_man 117 = .ok (.ifCond .eq 7, 3) := by decide +kernel
theorem dX7_man_120 : decode cX7_man 120 = .ok (.iconst 1, 1) := by decide +kernel
theorem dX7_man_121 : decode cX7_man 121 = .ok (.goto 4, 3) := by decide +kernel
theorem dX7_man_124 : decode cX7_man 124 = .ok (.iconst 0, 1) := by decide +kernel
theorem dX7_man_125 : decode cX7_man 125 = .ok (.ireturn, 1) := by decide +kernel
theorem dX7_man_126 : decode cX7_man 126 = .ok (.aload_n 0, 1) := by decide +kernel
theorem dX7_man_127 : decode cX7_man 127 = .ok (.getfield 19, 3) := by decide +kernel
theorem dX7_man_130 : decode cX7_man 130 = .ok (.iload_n 1, 1) := by decide +kernel
theorem dX7_man_131 : decode cX7_man 131 = .ok (.iconst 1, 1) := by decide +kernel
theorem dX7_man_132 : decode cX7_man 132 = .ok (.invokestatic 163, 3) := by decide +kernel
theorem dX7_man_135 : decode cX7_man 135 = .ok (.ireturn, 1) := by decide +kernel
theorem dX7_man_136 : decode cX7_man 136 = .ok (.aload_n 0, 1) := by decide +kernel
theorem dX7_man_137 : decode cX7_man 137 = .ok (.getfield 19, 3) := by decide +kernel
theorem dX7_man_140 : decode cX7_man 140 = .ok (.iload_n 1, 1) := by decide +kernel
theorem dX7_man_141 : decode cX7_man 141 = .ok (.iconst 2, 1) := by decide +kernel
theorem dX7_man_142 : decode cX7_man 142 = .ok (.invokestatic 163, 3) := by decide +kernel
theorem dX7_man_145 : decode cX7_man 145 = .ok (.ireturn, 1) := by decide +kernel
theorem dX7_man_146 : decode cX7_man 146 = .ok (.ldc 70, 2) := by decide +kernel
theorem dX7_man_148 : decode cX7_man 148 = .ok (.ireturn, 1) := by decide +kernel
theorem dX7_place_0 : decode cX7_place 0 = .ok (.aload_n 0, 1) := by decide +kernel
theorem dX7_place_1 : decode cX7_place 1 = .ok (.iconst 0, 1) := by decide +kernel
theorem dX7_place_2 : decode cX7_place 2 = .ok (.putfield 50, 3) := by decide +kernel
theorem dX7_place_5 : decode cX7_place 5 = .ok (.aload_n 0, 1) := by decide +kernel
theorem dX7_place_6 : decode cX7_place 6 = .ok (.invokevirtual 186, 3) := by decide +kernel
theorem dX7_place_9 : decode cX7_place 9 = .ok (.ifCond .ne 6, 3) := by decide +kernel
theorem dX7_place_12 : decode cX7_place 12 = .ok (.ldc 189, 2) := by decide +kernel
theorem dX7_place_14 : decode cX7_place 14 = .ok (.ireturn, 1) := by decide +kernel
theorem dX7_place_15 : decode cX7_place 15 = .ok (.iload_n 1, 1) := by decide +kernel
theorem dX7_place_16 : decode cX7_place 16 = .ok (.i2l, 1) := by decide +kernel
theorem dX7_place_17 : decode cX7_place 17 = .ok (.lconst 0, 1) := by decide +kernel
theorem dX7_place_18 : decode cX7_place 18 = .ok (.ldc2_w 206, 3) := by decide +kernel
theorem dX7_place_21 : decode cX7_place 21 = .ok (.invokestatic 60, 3) := by decide +kernel
theorem dX7_place_24 : decode cX7_place 24 = .ok (.ifCond .ne 6, 3) := by decide +kernel
theorem dX7_place_27 : decode cX7_place 27 = .ok (.ldc 70, 2) := by decide +kernel
theorem dX7_place_29 : decode cX7_place 29 = .ok (.ireturn, 1) := by decide +kernel
theorem dX7_place_30 : decode cX7_place 30 = .ok (.iload_n 1, 1) := by decide +kernel
theorem dX7_place_31 : decode cX7_place 31 = .ok (.aload_n 0, 1) := by decide +kernel
theorem dX7_place_32 : decode cX7_place 32 = .ok (.getfield 19, 3) := by decide +kernel
theorem dX7_place_35 : decode cX7_place 35 = .ok (.bipush 7, 2) := by decide +kernel
theorem dX7_place_37 : decode cX7_place 37 = .ok (.iaload, 1) := by decide +kernel
theorem dX7_place_38 : decode cX7_place 38 = .ok (.if_icmp .ge 15, 3) := by decide +kernel
theorem dX7_place_41 : decode cX7_place 41 = .ok (.aload_n 0, 1) := by decide +kernel
theorem dX7_place_42 : decode cX7_place 42 = .ok (.getfield 19, 3) := by decide +kernel
theorem dX7_place_45 : decode cX7_place 45 = .ok (.bipush 8, 2) := by decide +kernel
theorem dX7_place_47 : decode cX7_place 47 = .ok (.iload_n 1, 1) := by decide +kernel
theorem dX7_place_48 : decode cX7_place 48 = .ok (.iadd, 1) := by decide +kernel
theorem dX7_place_49 : decode cX7_place 49 = .ok (.iaload, 1) := by decide +kernel
theorem dX7_place_50 : decode cX7_place 50 = .ok (.goto 5, 3) := by decide +kernel
theorem dX7_place_53 : decode cX7_place 53 = .ok (.ldc 93, 2) := by decide +kernel
theorem dX7_place_55 : decode cX7_place 55 = .ok (.ireturn, 1) := by decide +kernel
theorem dX7_sun_0 : decode cX7_sun 0 = .ok (.aload_n 0, 1) := by decide +kernel
theorem dX7_sun_1 : decode cX7_sun 1 = .ok (.iconst 0, 1) := by decide +kernel
theorem dX7_sun_2 : decode cX7_sun 2 = .ok (.putfield 50, 3) := by decide +kernel
theorem dX7_sun_5 : decode cX7_sun 5 = .ok (.aload_n 0, 1) := by decide +kernel
theorem dX7_sun_6 : decode cX7_sun 6 = .ok (.invokevirtual 186, 3) := by decide +kernel
theorem dX7_sun_9 : decode cX7_sun 9 = .ok (.ifCond .ne 6, 3) := by decide +kernel
theorem dX7_sun_12 : decode cX7_sun 12 = .ok (.ldc 189, 2) := by decide +kernel
theorem dX7_sun_14 : decode cX7_sun 14 = .ok (.ireturn, 1) := by decide +kernel
theorem dX7_sun_15 : decode cX7_sun 15 = .ok (.iload_n 1, 1) := by decide +kernel
theorem dX7_sun_16 : decode cX7_sun 16 = .ok (.i2l, 1) := by decide +kernel
theorem dX7_sun_17 : decode cX7_sun 17 = .ok (.lconst 0, 1) := by decide +kernel
theorem dX7_sun_18 : decode cX7_sun 18 = .ok (.ldc2_w 208, 3) := by decide +kernel
theorem dX7_sun_21 : decode cX7_sun 21 = .ok (.invokestatic 60, 3) := by decide +kernel
theorem dX7_sun_24 : decode cX7_sun 24 = .ok (.ifCond .eq 14, 3) := by decide +kernel
theorem dX7_sun_27 : decode cX7_sun 27 = .ok (.aload_n 0, 1) := by decide +kernel
theorem dX7_sun_28 : decode cX7_sun 28 = .ok (.getfield 19, 3) := by decide +kernel
theorem dX7_sun_31 : decode cX7_sun 31 = .ok (.iload_n 1, 1) := by decide +kernel
theorem dX7_sun_32 : decode cX7_sun 32 = .ok (.invokestatic 152, 3) := by decide +kernel
theorem dX7_sun_35 : decode cX7_sun 35 = .ok (.goto 5, 3) := by decide +kernel
theorem dX7_sun_38 : decode cX7_sun 38 = .ok (.ldc 70, 2) := by decide +kernel
theorem dX7_sun_40 : decode cX7_sun 40 = .ok (.ireturn, 1) := by decide +kernel
theorem dX7_ahead_0 : decode cX7_ahead 0 = .ok (.aload_n 0, 1) := by decide +kernel
theorem dX7_ahead_1 : decode cX7_ahead 1 = .ok (.iconst 0, 1) := by decide +kernel
theorem dX7_ahead_2 : decode cX7_ahead 2 = .ok (.putfield 50, 3) := by decide +kernel
theorem dX7_ahead_5 : decode cX7_ahead 5 = .ok (.aload_n 0, 1) := by decide +kernel
theorem dX7_ahead_6 : decode cX7_ahead 6 = .ok (.iload_n 1, 1) := by decide +kernel
theorem dX7_ahead_7 : decode cX7_ahead 7 = .ok (.invokevirtual 199, 3) := by decide +kernel
theorem dX7_ahead_10 : decode cX7_ahead 10 = .ok (.ifCond .eq 25, 3) := by decide +kernel
theorem dX7_ahead_13 : decode cX7_ahead 13 = .ok (.iload_n 2, 1) := by decide +kernel
theorem dX7_ahead_14 : decode cX7_ahead 14 = .ok (.i2l, 1) := by decide +kernel
theorem dX7_ahead_15 : decode cX7_ahead 15 = .ok (.lconst 0, 1) := by decide +kernel
theorem dX7_ahead_16 : decode cX7_ahead 16 = .ok (.ldc2_w 210, 3) := by decide +kernel
theorem dX7_ahead_19 : decode cX7_ahead 19 = .ok (.invokestatic 60, 3) := by decide +kernel
theorem dX7_ahead_22 : decode cX7_ahead 22 = .ok (.ifCond .eq 13, 3) := by decide +kernel
theorem dX7_ahead_25 : decode cX7_ahead 25 = .ok (.iload_n 3, 1) := by decide +kernel
theorem dX7_ahead_26 : decode cX7_ahead 26 = .ok (.i2l, 1) := by decide +kernel
theorem dX7_ahead_27 : decode cX7_ahead 27 = .ok (.lconst 0, 1) := by decide +kernel
theorem dX7_ahead_28 : decode cX7_ahead 28 = .ok (.lconst 1, 1) := by decide +kernel
theorem dX7_ahead_29 : decode cX7_ahead 29 = .ok (.invokestatic 60, 3) := by decide +kernel
theorem dX7_ahead_32 : decode cX7_ahead 32 = .ok (.ifCond .ne 6, 3) := by decide +kernel
theorem dX7_ahead_35 : decode cX7_ahead 35 = .ok (.ldc 70, 2) := by decide +kernel
theorem dX7_ahead_37 : decode cX7_ahead 37 = .ok (.ireturn, 1) := by decide +kernel
theorem dX7_ahead_38 : decode cX7_ahead 38 = .ok (.aload_n 0, 1) := by decide +kernel
theorem dX7_ahead_39 : decode cX7_ahead 39 = .ok (.invokevirtual 212, 3) := by decide +kernel
theorem dX7_ahead_42 : decode cX7_ahead 42 = .ok (.aload_n 0, 1) := by decide +kernel
theorem dX7_ahead_43 : decode cX7_ahead 43 = .ok (.iload_n 1, 1) := by decide +kernel
theorem dX7_ahead_44 : decode cX7_ahead 44 = .ok (.iload_n 2, 1) := by decide +kernel
theorem dX7_ahead_45 : decode cX7_ahead 45 = .ok (.invokevirtual 215, 3) := by decide +kernel
theorem dX7_ahead_48 : decode cX7_ahead 48 = .ok (.istore 4, 2) := by decide +kernel
theorem dX7_ahead_50 : decode cX7_ahead 50 = .ok (.iload_n 3, 1) := by decide +kernel
theorem dX7_ahead_51 : decode cX7_ahead 51 = .ok (.ifCond .ne 14, 3) := by decide +kernel
theorem dX7_ahead_54 : decode cX7_ahead 54 = .ok (.aload_n 0, 1) := by decide +kernel
theorem dX7_ahead_55 : decode cX7_ahead 55 = .ok (.getfield 25, 3) := by decide +kernel
theorem dX7_ahead_58 : decode cX7_ahead 58 = .ok (.iload_n 1, 1) := by decide +kernel
theorem dX7_ahead_59 : decode cX7_ahead 59 = .ok (.invokestatic 156, 3) := by decide +kernel
theorem dX7_ahead_62 : decode cX7_ahead 62 = .ok (.goto 5, 3) := by decide +kernel
theorem dX7_ahead_65 : decode cX7_ahead 65 = .ok (.iload 4, 2) := by decide +kernel
theorem dX7_ahead_67 : decode cX7_ahead 67 = .ok (.ireturn, 1) := by decide +kernel
theorem dX7_sunny_0 : decode cX7_sunny 0 = .ok (.aload_n 0, 1) := by decide +kernel
theorem dX7_sunny_1 : decode cX7_sunny 1 = .ok (.iconst 0, 1) := by decide +kernel
theorem dX7_sunny_2 : decode cX7_sunny 2 = .ok (.putfield 50, 3) := by decide +kernel
theorem dX7_sunny_5 : decode cX7_sunny 5 = .ok (.aload_n 0, 1) := by decide +kernel
theorem dX7_sunny_6 : decode cX7_sunny 6 = .ok (.iload_n 1, 1) := by decide +kernel
theorem dX7_sunny_7 : decode cX7_sunny 7 = .ok (.invokevirtual 199, 3) := by decide +kernel
theorem dX7_sunny_10 : decode cX7_sunny 10 = .ok (.ifCond .ne 6, 3) := by decide +kernel
theorem dX7_sunny_13 : decode cX7_sunny 13 = .ok (.ldc 70, 2) := by decide +kernel
theorem dX7_sunny_15 : decode cX7_sunny 15 = .ok (.ireturn, 1) := by decide +kernel
theorem dX7_sunny_16 : decode cX7_sunny 16 = .ok (.aload_n 0, 1) := by decide +kernel
theorem dX7_sunny_17 : decode cX7_sunny 17 = .ok (.invokevirtual 212, 3) := by decide +kernel
theorem dX7_sunny_20 : decode cX7_sunny 20 = .ok (.iconst 0, 1) := by decide +kernel
theorem dX7_sunny_21 : decode cX7_sunny 21 = .ok (.istore_n 2, 1) := by decide +kernel
theorem dX7_sunny_22 : decode cX7_sunny 22 = .ok (.iload_n 2, 1) := by decide +kernel
theorem dX7_sunny_23 : decode cX7_sunny 23 = .ok (.bipush 61, 2) := by decide +kernel
theorem dX7_sunny_25 : decode cX7_sunny 25 = .ok (.if_icmp .ge 32, 3) := by decide +kernel
theorem dX7_sunny_28 : decode cX7_sunny 28 = .ok (.aload_n 0, 1) := by decide +kernel
theorem dX7_sunny_29 : decode cX7_sunny 29 = .ok (.getfield 25, 3) := by decide +kernel
theorem dX7_sunny_32 : decode cX7_sunny 32 = .ok (.iload_n 1, 1) := by decide +kernel
theorem dX7_sunny_33 : decode cX7_sunny 33 = .ok (.invokestatic 167, 3) := by decide +kernel
theorem dX7_sunny_36 : decode cX7_sunny 36 = .ok (.ifCond .eq 5, 3) := by decide +kernel
theorem dX7_sunny_39 : decode cX7_sunny 39 = .ok (.iload_n 2, 1) := by decide +kernel
theorem dX7_sunny_40 : decode cX7_sunny 40 = .ok (.ireturn, 1) := by decide +kernel
theorem dX7_sunny_41 : decode cX7_sunny 41 = .ok (.aload_n 0, 1) := by decide +kernel
theorem dX7_sunny_42 : decode cX7_sunny 42 = .ok (.aload_n 0, 1) := by decide +kernel
theorem dX7_sunny_43 : decode cX7_sunny 43 = .ok (.getfield 25, 3) := by decide +kernel
theorem dX7_sunny_46 : decode cX7_sunny 46 = .ok (.iconst 0, 1) := by decide +kernel
theorem dX7_sunny_47 : decode cX7_sunny 47 = .ok (.invokevirtual 180, 3) := by decide +kernel
theorem dX7_sunny_50 : decode cX7_sunny 50 = .ok (.istore_n 3, 1) := by decide +kernel
theorem dX7_sunny_51 : decode cX7_sunny 51 = .ok (.iinc 2 1, 3) := by decide +kernel
theorem dX7_sunny_54 : decode cX7_sunny 54 = .ok (.goto (-32), 3) := by decide +kernel
theorem dX7_sunny_57 : decode cX7_sunny 57 = .ok (.ldc 93, 2) := by decide +kernel
theorem dX7_sunny_59 : decode cX7_sunny 59 = .ok (.ireturn, 1) := by decide +kernel
theorem dX7_most_0 : decode cX7_most 0 = .ok (.aload_n 0, 1) := by decide +kernel
theorem dX7_most_1 : decode cX7_most 1 = .ok (.iconst 0, 1) := by decide +kernel
theorem dX7_most_2 : decode cX7_most 2 = .ok (.putfield 50, 3) := by decide +kernel
theorem dX7_most_5 : decode cX7_most 5 = .ok (.aload_n 0, 1) := by decide +kernel
theorem dX7_most_6 : decode cX7_most 6 = .ok (.invokevirtual 186, 3) := by decide +kernel
theorem dX7_most_9 : decode cX7_most 9 = .ok (.ifCond .ne 6, 3) := by decide +kernel
theorem dX7_most_12 : decode cX7_most 12 = .ok (.ldc 189, 2) := by decide +kernel
theorem dX7_most_14 : decode cX7_most 14 = .ok (.ireturn, 1) := by decide +kernel
theorem dX7_most_15 : decode cX7_most 15 = .ok (.iload_n 1, 1) := by decide +kernel
theorem dX7_most_16 : decode cX7_most 16 = .ok (.i2l, 1) := by decide +kernel
theorem dX7_most_17 : decode cX7_most 17 = .ok (.lconst 0, 1) := by decide +kernel
theorem dX7_most_18 : decode cX7_most 18 = .ok (.ldc2_w 210, 3) := by decide +kernel
theorem dX7_most_21 : decode cX7_most 21 = .ok (.invokestatic 60, 3) := by decide +kernel
theorem dX7_most_24 : decode cX7_most 24 = .ok (.ifCond .eq 13, 3) := by decide +kernel
theorem dX7_most_27 : decode cX7_most 27 = .ok (.iload_n 2, 1) := by decide +kernel
theorem dX7_most_28 : decode cX7_most 28 = .ok (.i2l, 1) := by decide +kernel
theorem dX7_most_29 : decode cX7_most 29 = .ok (.lconst 0, 1) := by decide +kernel
theorem dX7_most_30 : decode cX7_most 30 = .ok (.lconst 1, 1) := by decide +kernel
theorem dX7_most_31 : decode cX7_most 31 = .ok (.invokestatic 60, 3) := by decide +kernel
theorem dX7_most_34 : decode cX7_most 34 = .ok (.ifCond .ne 6, 3) := by decide +kernel
theorem dX7_most_37 : decode cX7_most 37 = .ok (.ldc 70, 2) := by decide +kernel
theorem dX7_most_39 : decode cX7_most 39 = .ok (.ireturn, 1) := by decide +kernel
theorem dX7_most_40 : decode cX7_most 40 = .ok (.aload_n 0, 1) := by decide +kernel
theorem dX7_most_41 : decode cX7_most 41 = .ok (.invokevirtual 212, 3) := by decide +kernel
theorem dX7_most_44 : decode cX7_most 44 = .ok (.aload_n 0, 1) := by decide +kernel
theorem dX7_most_45 : decode cX7_most 45 = .ok (.aload_n 0, 1) := by decide +kernel
theorem dX7_most_46 : decode cX7_most 46 = .ok (.getfield 25, 3) := by decide +kernel
theorem dX7_most_49 : decode cX7_most 49 = .ok (.iload_n 1, 1) := by decide +kernel
theorem dX7_most_50 : decode cX7_most 50 = .ok (.invokevirtual 183, 3) := by decide +kernel
theorem dX7_most_53 : decode cX7_most 53 = .ok (.istore_n 3, 1) := by decide +kernel
theorem dX7_most_54 : decode cX7_most 54 = .ok (.iconst 0, 1) := by decide +kernel
theorem dX7_most_55 : decode cX7_most 55 = .ok (.istore 4, 2) := by decide +kernel
theorem dX7_most_57 : decode cX7_most 57 = .ok (.iconst 1, 1) := by decide +kernel
theorem dX7_most_58 : decode cX7_most 58 = .ok (.istore 5, 2) := by decide +kernel
theorem dX7_most_60 : decode cX7_most 60 = .ok (.iload 5, 2) := by decide +kernel
theorem dX7_most_62 : decode cX7_most 62 = .ok (.aload_n 0, 1) := by decide +kernel
theorem dX7_most_63 : decode cX7_most 63 = .ok (.getfield 25, 3) := by decide +kernel
theorem dX7_most_66 : decode cX7_most 66 = .ok (.iconst 3, 1) := by decide +kernel
theorem dX7_most_67 : decode cX7_most 67 = .ok (.iaload, 1) := by decide +kernel
theorem dX7_most_68 : decode cX7_most 68 = .ok (.if_icmp .ge 41, 3) := by decide +kernel
theorem dX7_most_71 : decode cX7_most 71 = .ok (.aload_n 0, 1) := by decide +kernel
theorem dX7_most_72 : decode cX7_most 72 = .ok (.getfield 25, 3) := by decide +kernel
theorem dX7_most_75 : decode cX7_most 75 = .ok (.iload 5, 2) := by decide +kernel
theorem dX7_most_77 : decode cX7_most 77 = .ok (.iconst 3, 1) := by decide +kernel
theorem dX7_most_78 : decode cX7_most 78 = .ok (.invokestatic 163, 3) := by decide +kernel
theorem dX7_most_81 : decode cX7_most 81 = .ok (.aload_n 0, 1) := by decide +kernel
theorem dX7_most_82 : decode cX7_most 82 = .ok (.getfield 25, 3) := by decide +kernel
theorem dX7_most_85 : decode cX7_most 85 = .ok (.iload 4, 2) := by decide +kernel
theorem dX7_most_87 : decode cX7_most 87 = .ok (.iconst 3, 1) := by decide +kernel
theorem dX7_most_88 : decode cX7_most 88 = .ok (.invokestatic 163, 3) := by decide +kernel
theorem dX7_most_91 : decode cX7_most 91 = .ok (.if_icmp .le 8, 3) := by decide +kernel
theorem dX7_most_94 : decode cX7_most 94 = .ok (.iload 5, 2) := by decide +kernel
theorem dX7_most_96 : decode cX7_most 96 = .ok (.goto 5, 3) := by decide +kernel
theorem dX7_most_99 : decode cX7_most 99 = .ok (.iload 4, 2) := by decide +kernel
theorem dX7_most_101 : decode cX7_most 101 = .ok (.istore 4, 2) := by decide +kernel
theorem dX7_most_103 : decode cX7_most 103 = .ok (.iinc 5 1, 3) := by decide +kernel
theorem dX7_most_106 : decode cX7_most 106 = .ok (.goto (-46), 3) := by decide +kernel
theorem dX7_most_109 : decode cX7_most 109 = .ok (.iload_n 2, 1) := by decide +kernel
theorem dX7_most_110 : decode cX7_most 110 = .ok (.ifCond .ne 8, 3) := by decide +kernel
theorem dX7_most_113 : decode cX7_most 113 = .ok (.iload 4, 2) := by decide +kernel
theorem dX7_most_115 : decode cX7_most 115 = .ok (.goto 13, 3) := by decide +kernel
theorem dX7_most_118 : decode cX7_most 118 = .ok (.aload_n 0, 1) := by decide +kernel
theorem dX7_most_119 : decode cX7_most 119 = .ok (.getfield 25, 3) := by decide +kernel
theorem dX7_most_122 : decode cX7_most 122 = .ok (.iload 4, 2) := by decide +kernel
theorem dX7_most_124 : decode cX7_most 124 = .ok (.iconst 3, 1) := by decide +kernel
theorem dX7_most_125 : decode cX7_most 125 = .ok (.invokestatic 163, 3) := by decide +kernel
theorem dX7_most_128 : decode cX7_most 128 = .ok (.ireturn, 1) := by decide +kernel
theorem dX7_leastSnuff_0 : decode cX7_leastSnuff 0 = .ok (.aload_n 0, 1) := by decide +kernel
theorem dX7_leastSnuff_1 : decode cX7_leastSnuff 1 = .ok (.iconst 0, 1) := by decide +kernel
theorem dX7_leastSnuff_2 : decode cX7_leastSnuff 2 = .ok (.putfield 50, 3) := by decide +kernel
theorem dX7_leastSnuff_5 : decode cX7_leastSnuff 5 = .ok (.aload_n 0, 1) := by decide +kernel
theorem dX7_leastSnuff_6 : decode cX7_leastSnuff 6 = .ok (.iload_n 1, 1) := by decide +kernel
theorem dX7_leastSnuff_7 : decode cX7_leastSnuff 7 = .ok (.invokevirtual 199, 3) := by decide +kernel
theorem dX7_leastSnuff_10 : decode cX7_leastSnuff 10 = .ok (.ifCond .eq 27, 3) := by decide +kernel
theorem dX7_leastSnuff_13 : decode cX7_leastSnuff 13 = .ok (.iload_n 2, 1) := by decide +kernel
theorem dX7_leastSnuff_14 : decode cX7_leastSnuff 14 = .ok (.i2l, 1) := by decide +kernel
theorem dX7_leastSnuff_15 : decode cX7_leastSnuff 15 = .ok (.lconst 1, 1) := by decide +kernel
theorem dX7_leastSnuff_16 : decode cX7_leastSnuff 16 = .ok (.ldc2_w 210, 3) := by decide +kernel
theorem dX7_leastSnuff_19 : decode cX7_leastSnuff 19 = .ok (.invokestatic 60, 3) := by decide +kernel
theorem dX7_leastSnuff_22 : decode cX7_leastSnuff 22 = .ok (.ifCond .eq 15, 3) := by decide +kernel
theorem dX7_leastSnuff_25 : decode cX7_leastSnuff 25 = .ok (.iload_n 3, 1) := by decide +kernel
theorem dX7_leastSnuff_26 : decode cX7_leastSnuff 26 = .ok (.i2l, 1) := by decide +kernel
theorem dX7_leastSnuff_27 : decode cX7_leastSnuff 27 = .ok (.lconst 1, 1) := by decide +kernel
theorem dX7_leastSnuff_28 : decode cX7_leastSnuff 28 = .ok (.ldc2_w 210, 3) := by decide +kernel
theorem dX7_leastSnuff_31 : decode cX7_leastSnuff 31 = .ok (.invokestatic 60, 3) := by decide +kernel
theorem dX7_leastSnuff_34 : decode cX7_leastSnuff 34 = .ok (.ifCond .ne 6, 3) := by decide +kernel
theorem dX7_leastSnuff_37 : decode cX7_leastSnuff 37 = .ok (.ldc 70, 2) := by decide +kernel
theorem dX7_leastSnuff_39 : decode cX7_leastSnuff 39 = .ok (.ireturn, 1) := by decide +kernel
theorem dX7_leastSnuff_40 : decode cX7_leastSnuff 40 = .ok (.aload_n 0, 1) := by decide +kernel
theorem dX7_leastSnuff_41 : decode cX7_leastSnuff 41 = .ok (.getfield 19, 3) := by decide +kernel
theorem dX7_leastSnuff_44 : decode cX7_leastSnuff 44 = .ok (.iload_n 1, 1) := by decide +kernel
theorem dX7_leastSnuff_45 : decode cX7_leastSnuff 45 = .ok (.invokestatic 156, 3) := by decide +kernel
theorem dX7_leastSnuff_48 : decode cX7_leastSnuff 48 = .ok (.istore 4, 2) := by decide +kernel
theorem dX7_leastSnuff_50 : decode cX7_leastSnuff 50 = .ok (.iload 4, 2) := by decide +kernel
theorem dX7_leastSnuff_52 : decode cX7_leastSnuff 52 = .ok (.ldc 93, 2) := by decide +kernel
theorem dX7_leastSnuff_54 : decode cX7_leastSnuff 54 = .ok (.if_icmp .ne 6, 3) := by decide +kernel
theorem dX7_leastSnuff_57 : decode cX7_leastSnuff 57 = .ok (.ldc 189, 2) := by decide +kernel
theorem dX7_leastSnuff_59 : decode cX7_leastSnuff 59 = .ok (.ireturn, 1) := by decide +kernel
theorem dX7_leastSnuff_60 : decode cX7_leastSnuff 60 = .ok (.iconst 0, 1) := by decide +kernel
theorem dX7_leastSnuff_61 : decode cX7_leastSnuff 61 = .ok (.istore 5, 2) := by decide +kernel
theorem dX7_leastSnuff_63 : decode cX7_leastSnuff 63 = .ok (.iload 5, 2) := by decide +kernel
theorem dX7_leastSnuff_65 : decode cX7_leastSnuff 65 = .ok (.iload 4, 2) := by decide +kernel
theorem dX7_leastSnuff_67 : decode cX7_leastSnuff 67 = .ok (.if_icmp .gt 60, 3) := by decide +kernel
theorem dX7_leastSnuff_70 : decode cX7_leastSnuff 70 = .ok (.aload_n 0, 1) := by decide +kernel
theorem dX7_leastSnuff_71 : decode cX7_leastSnuff 71 = .ok (.invokevirtual 212, 3) := by decide +kernel
theorem dX7_leastSnuff_74 : decode cX7_leastSnuff 74 = .ok (.iconst 0, 1) := by decide +kernel
theorem dX7_leastSnuff_75 : decode cX7_leastSnuff 75 = .ok (.istore 6, 2) := by decide +kernel
theorem dX7_leastSnuff_77 : decode cX7_leastSnuff 77 = .ok (.iload 6, 2) := by decide +kernel
theorem dX7_leastSnuff_79 : decode cX7_leastSnuff 79 = .ok (.iload 5, 2) := by decide +kernel
theorem dX7_leastSnuff_81 : decode cX7_leastSnuff 81 = .ok (.if_icmp .ge 17, 3) := by decide +kernel
theorem dX7_leastSnuff_84 : decode cX7_leastSnuff 84 = .ok (.aload_n 0, 1) := by decide +kernel
theorem dX7_leastSnuff_85 : decode cX7_leastSnuff 85 = .ok (.getfield 25, 3) := by decide +kernel
theorem dX7_leastSnuff_88 : decode cX7_leastSnuff 88 = .ok (.iload_n 1, 1) := by decide +kernel
theorem dX7_leastSnuff_89 : decode cX7_leastSnuff 89 = .ok (.invokestatic 202, 3) := by decide +kernel
theorem dX7_leastSnuff_92 : decode cX7_leastSnuff 92 = .ok (.iinc 6 1, 3) := by decide +kernel
theorem dX7_leastSnuff_95 : decode cX7_leastSnuff 95 = .ok (.goto (-18), 3) := by decide +kernel
theorem dX7_leastSnuff_98 : decode cX7_leastSnuff 98 = .ok (.aload_n 0, 1) := by decide +kernel
theorem dX7_leastSnuff_99 : decode cX7_leastSnuff 99 = .ok (.iload_n 1, 1) := by decide +kernel
theorem dX7_leastSnuff_100 : decode cX7_leastSnuff 100 = .ok (.iload_n 2, 1) := by decide +kernel
theorem dX7_leastSnuff_101 : decode cX7_leastSnuff 101 = .ok (.invokevirtual 215, 3) := by decide +kernel
theorem dX7_leastSnuff_104 : decode cX7_leastSnuff 104 = .ok (.aload_n 0, 1) := by decide +kernel
theorem dX7_leastSnuff_105 : decode cX7_leastSnuff 105 = .ok (.getfield 19, 3) := by decide +kernel
theorem dX7_leastSnuff_108 : decode cX7_leastSnuff 108 = .ok (.iload_n 1, 1) := by decide +kernel
theorem dX7_leastSnuff_109 : decode cX7_leastSnuff 109 = .ok (.iconst 3, 1) := by decide +kernel
theorem dX7_leastSnuff_110 : decode cX7_leastSnuff 110 = .ok (.invokestatic 163, 3) := by decide +kernel
theorem dX7_leastSnuff_113 : decode cX7_leastSnuff 113 = .ok (.iload_n 3, 1) := by decide +kernel
theorem dX7_leastSnuff_114 : decode cX7_leastSnuff 114 = .ok (.iadd, 1) := by decide +kernel
theorem dX7_leastSnuff_115 : decode cX7_leastSnuff 115 = .ok (.if_icmp .lt 6, 3) := by decide +kernel
theorem dX7_leastSnuff_118 : decode cX7_leastSnuff 118 = .ok (.iload 5, 2) := by decide +kernel
theorem dX7_leastSnuff_120 : decode cX7_leastSnuff 120 = .ok (.ireturn, 1) := by decide +kernel
theorem dX7_leastSnuff_121 : decode cX7_leastSnuff 121 = .ok (.iinc 5 1, 3) := by decide +kernel
theorem dX7_leastSnuff_124 : decode cX7_leastSnuff 124 = .ok (.goto (-61), 3) := by decide +kernel
theorem dX7_leastSnuff_127 : decode cX7_leastSnuff 127 = .ok (.ldc 93, 2) := by decide +kernel
theorem dX7_leastSnuff_129 : decode cX7_leastSnuff 129 = .ok (.ireturn, 1) := by decide +kernel
theorem dX7_whenToCome_0 : decode cX7_whenToCome 0 = .ok (.aload_n 0, 1) := by decide +kernel
theorem dX7_whenToCome_1 : decode cX7_whenToCome 1 = .ok (.iconst 0, 1) := by decide +kernel
theorem dX7_whenToCome_2 : decode cX7_whenToCome 2 = .ok (.putfield 50, 3) := by decide +kernel
theorem dX7_whenToCome_5 : decode cX7_whenToCome 5 = .ok (.aload_n 0, 1) := by decide +kernel
theorem dX7_whenToCome_6 : decode cX7_whenToCome 6 = .ok (.iload_n 1, 1) := by decide +kernel
theorem dX7_whenToCome_7 : decode cX7_whenToCome 7 = .ok (.invokevirtual 199, 3) := by decide +kernel
theorem dX7_whenToCome_10 : decode cX7_whenToCome 10 = .ok (.ifCond .eq 25, 3) := by decide +kernel
theorem dX7_whenToCome_13 : decode cX7_whenToCome 13 = .ok (.iload_n 2, 1) := by decide +kernel
theorem dX7_whenToCome_14 : decode cX7_whenToCome 14 = .ok (.i2l, 1) := by decide +kernel
theorem dX7_whenToCome_15 : decode cX7_whenToCome 15 = .ok (.lconst 1, 1) := by decide +kernel
theorem dX7_whenToCome_16 : decode cX7_whenToCome 16 = .ok (.ldc2_w 218, 3) := by decide +kernel
theorem dX7_whenToCome_19 : decode cX7_whenToCome 19 = .ok (.invokestatic 60, 3) := by decide +kernel
theorem dX7_whenToCome_22 : decode cX7_whenToCome 22 = .ok (.ifCond .eq 13, 3) := by decide +kernel
theorem dX7_whenToCome_25 : decode cX7_whenToCome 25 = .ok (.iload_n 3, 1) := by decide +kernel
theorem dX7_whenToCome_26 : decode cX7_whenToCome 26 = .ok (.i2l, 1) := by decide +kernel
theorem dX7_whenToCome_27 : decode cX7_whenToCome 27 = .ok (.lconst 0, 1) := by decide +kernel
theorem dX7_whenToCome_28 : decode cX7_whenToCome 28 = .ok (.lconst 1, 1) := by decide +kernel
theorem dX7_whenToCome_29 : decode cX7_whenToCome 29 = .ok (.invokestatic 60, 3) := by decide +kernel
theorem dX7_whenToCome_32 : decode cX7_whenToCome 32 = .ok (.ifCond .ne 6, 3) := by decide +kernel
theorem dX7_whenToCome_35 : decode cX7_whenToCome 35 = .ok (.ldc 70, 2) := by decide +kernel
theorem dX7_whenToCome_37 : decode cX7_whenToCome 37 = .ok (.ireturn, 1) := by decide +kernel
theorem dX7_whenToCome_38 : decode cX7_whenToCome 38 = .ok (.aload_n 0, 1) := by decide +kernel
theorem dX7_whenToCome_39 : decode cX7_whenToCome 39 = .ok (.getfield 19, 3) := by decide +kernel
theorem dX7_whenToCome_42 : decode cX7_whenToCome 42 = .ok (.iload_n 1, 1) := by decide +kernel
theorem dX7_whenToCome_43 : decode cX7_whenToCome 43 = .ok (.iconst 4, 1) := by decide +kernel
theorem dX7_whenToCome_44 : decode cX7_whenToCome 44 = .ok (.invokestatic 163, 3) := by decide +kernel
theorem dX7_whenToCome_47 : decode cX7_whenToCome 47 = .ok (.ifCond .lt 6, 3) := by decide +kernel
theorem dX7_whenToCome_50 : decode cX7_whenToCome 50 = .ok (.ldc 189, 2) := by decide +kernel
theorem dX7_whenToCome_52 : decode cX7_whenToCome 52 = .ok (.ireturn, 1) := by decide +kernel
theorem dX7_whenToCome_53 : decode cX7_whenToCome 53 = .ok (.ldc 93, 2) := by decide +kernel
theorem dX7_whenToCome_55 : decode cX7_whenToCome 55 = .ok (.istore 4, 2) := by decide +kernel
theorem dX7_whenToCome_57 : decode cX7_whenToCome 57 = .ok (.ldc 93, 2) := by decide +kernel
theorem dX7_whenToCome_59 : decode cX7_whenToCome 59 = .ok (.istore 5, 2) := by decide +kernel
theorem dX7_whenToCome_61 : decode cX7_whenToCome 61 = .ok (.iconst 0, 1) := by decide +kernel
theorem dX7_whenToCome_62 : decode cX7_whenToCome 62 = .ok (.istore 6, 2) := by decide +kernel
theorem dX7_whenToCome_64 : decode cX7_whenToCome 64 = .ok (.iload 6, 2) := by decide +kernel
theorem dX7_whenToCome_66 : decode cX7_whenToCome 66 = .ok (.iload_n 2, 1) := by decide +kernel
theorem dX7_whenToCome_67 : decode cX7_whenToCome 67 = .ok (.if_icmp .ge 93, 3) := by decide +kernel
theorem dX7_whenToCome_70 : decode cX7_whenToCome 70 = .ok (.aload_n 0, 1) := by decide +kernel
theorem dX7_whenToCome_71 : decode cX7_whenToCome 71 = .ok (.invokevirtual 212, 3) := by decide +kernel
theorem dX7_whenToCome_74 : decode cX7_whenToCome 74 = .ok (.aload_n 0, 1) := by decide +kernel
theorem dX7_whenToCome_75 : decode cX7_whenToCome 75 = .ok (.aload_n 0, 1) := by decide +kernel
theorem dX7_whenToCome_76 : decode cX7_whenToCome 76 = .ok (.getfield 25, 3) := by decide +kernel
theorem dX7_whenToCome_79 : decode cX7_whenToCome 79 = .ok (.iload 6, 2) := by decide +kernel
theorem dX7_whenToCome_81 : decode cX7_whenToCome 81 = .ok (.invokevirtual 183, 3) := by decide +kernel
theorem dX7_whenToCome_84 : decode cX7_whenToCome 84 = .ok (.istore 7, 2) := by decide +kernel
theorem dX7_whenToCome_86 : decode cX7_whenToCome 86 = .ok (.aload_n 0, 1) := by decide +kernel
theorem dX7_whenToCome_87 : decode cX7_whenToCome 87 = .ok (.getfield 25, 3) := by decide +kernel
theorem dX7_whenToCome_90 : decode cX7_whenToCome 90 = .ok (.iload_n 1, 1) := by decide +kernel
theorem dX7_whenToCome_91 : decode cX7_whenToCome 91 = .ok (.aload_n 0, 1) := by decide +kernel
theorem dX7_whenToCome_92 : decode cX7_whenToCome 92 = .ok (.getfield 25, 3) := by decide +kernel
theorem dX7_whenToCome_95 : decode cX7_whenToCome 95 = .ok (.bipush 7, 2) := by decide +kernel
theorem dX7_whenToCome_97 : decode cX7_whenToCome 97 = .ok (.iaload, 1) := by decide +kernel
theorem dX7_whenToCome_98 : decode cX7_whenToCome 98 = .ok (.invokestatic 170, 3) := by decide +kernel
theorem dX7_whenToCome_101 : decode cX7_whenToCome 101 = .ok (.aload_n 0, 1) := by decide +kernel
theorem dX7_whenToCome_102 : decode cX7_whenToCome 102 = .ok (.iload_n 1, 1) := by decide +kernel
theorem dX7_whenToCome_103 : decode cX7_whenToCome 103 = .ok (.iload_n 2, 1) := by decide +kernel
theorem dX7_whenToCome_104 : decode cX7_whenToCome 104 = .ok (.iload 6, 2) := by decide +kernel
theorem dX7_whenToCome_106 : decode cX7_whenToCome 106 = .ok (.isub, 1) := by decide +kernel
theorem dX7_whenToCome_107 : decode cX7_whenToCome 107 = .ok (.invokevirtual 215, 3) := by decide +kernel
theorem dX7_whenToCome_110 : decode cX7_whenToCome 110 = .ok (.aload_n 0, 1) := by decide +kernel
theorem dX7_whenToCome_111 : decode cX7_whenToCome 111 = .ok (.getfield 19, 3) := by decide +kernel
theorem dX7_whenToCome_114 : decode cX7_whenToCome 114 = .ok (.iload_n 1, 1) := by decide +kernel
theorem dX7_whenToCome_115 : decode cX7_whenToCome 115 = .ok (.iconst 3, 1) := by decide +kernel
theorem dX7_whenToCome_116 : decode cX7_whenToCome 116 = .ok (.invokestatic 163, 3) := by decide +kernel
theorem dX7_whenToCome_119 : decode cX7_whenToCome 119 = .ok (.isub, 1) := by decide +kernel
theorem dX7_whenToCome_120 : decode cX7_whenToCome 120 = .ok (.istore 8, 2) := by decide +kernel
theorem dX7_whenToCome_122 : decode cX7_whenToCome 122 = .ok (.iload 8, 2) := by decide +kernel
theorem dX7_whenToCome_124 : decode cX7_whenToCome 124 = .ok (.iload 5, 2) := by decide +kernel
theorem dX7_whenToCome_126 : decode cX7_whenToCome 126 = .ok (.if_icmp .le 8, 3) := by decide +kernel
theorem dX7_whenToCome_129 : decode cX7_whenToCome 129 = .ok (.iload 6, 2) := by decide +kernel
theorem dX7_whenToCome_131 : decode cX7_whenToCome 131 = .ok (.goto 5, 3) := by decide +kernel
theorem dX7_whenToCome_134 : decode cX7_whenToCome 134 = .ok (.iload 4, 2) := by decide +kernel
theorem dX7_whenToCome_136 : decode cX7_whenToCome 136 = .ok (.istore 4, 2) := by decide +kernel
theorem dX7_whenToCome_138 : decode cX7_whenToCome 138 = .ok (.iload 8, 2) := by decide +kernel
theorem dX7_whenToCome_140 : decode cX7_whenToCome 140 = .ok (.iload 5, 2) := by decide +kernel
theorem dX7_whenToCome_142 : decode cX7_whenToCome 142 = .ok (.if_icmp .le 8, 3) := by decide +kernel
theorem dX7_whenToCome_145 : decode cX7_whenToCome 145 = .ok (.iload 8, 2) := by decide +kernel
theorem dX7_whenToCome_147 : decode cX7_whenToCome 147 = .ok (.goto 5, 3) := by decide +kernel
theorem dX7_whenToCome_150 : decode cX7_whenToCome 150 = .ok (.iload 5, 2) := by decide +kernel
theorem dX7_whenToCome_152 : decode cX7_whenToCome 152 = .ok (.istore 5, 2) := by decide +kernel
theorem dX7_whenToCome_154 : decode cX7_whenToCome 154 = .ok (.iinc 6 1, 3) := by decide +kernel
theorem dX7_whenToCome_157 : decode cX7_whenToCome 157 = .ok (.goto (-93), 3) := by decide +kernel
theorem dX7_whenToCome_160 : decode cX7_whenToCome 160 = .ok (.iload_n 3, 1) := by decide +kernel
theorem dX7_whenToCome_161 : decode cX7_whenToCome 161 = .ok (.ifCond .ne 8, 3) := by decide +kernel
theorem dX7_whenToCome_164 : decode cX7_whenToCome 164 = .ok (.iload 4, 2) := by decide +kernel
theorem dX7_whenToCome_166 : decode cX7_whenToCome 166 = .ok (.goto 5, 3) := by decide +kernel
theorem dX7_whenToCome_169 : decode cX7_whenToCome 169 = .ok (.iload 5, 2) := by decide +kernel
theorem dX7_whenToCome_171 : decode cX7_whenToCome 171 = .ok (.ireturn, 1) := by decide +kernel
theorem dX7_sitSo_0 : decode cX7_sitSo 0 = .ok (.iconst 1, 1) := by decide +kernel
theorem dX7_sitSo_1 : decode cX7_sitSo 1 = .ok (.istore_n 3, 1) := by decide +kernel
theorem dX7_sitSo_2 : decode cX7_sitSo 2 = .ok (.iconst 0, 1) := by decide +kernel
theorem dX7_sitSo_3 : decode cX7_sitSo 3 = .ok (.istore 4, 2) := by decide +kernel
theorem dX7_sitSo_5 : decode cX7_sitSo 5 = .ok (.iload 4, 2) := by decide +kernel
theorem dX7_sitSo_7 : decode cX7_sitSo 7 = .ok (.iload_n 2, 1) := by decide +kernel
theorem dX7_sitSo_8 : decode cX7_sitSo 8 = .ok (.if_icmp .ge 49, 3) := by decide +kernel
theorem dX7_sitSo_11 : decode cX7_sitSo 11 = .ok (.aload_n 0, 1) := by decide +kernel
theorem dX7_sitSo_12 : decode cX7_sitSo 12 = .ok (.aload_n 0, 1) := by decide +kernel
theorem dX7_sitSo_13 : decode cX7_sitSo 13 = .ok (.getfield 25, 3) := by decide +kernel
theorem dX7_sitSo_16 : decode cX7_sitSo 16 = .ok (.iconst 0, 1) := by decide +kernel
theorem dX7_sitSo_17 : decode cX7_sitSo 17 = .ok (.invokevirtual 180, 3) := by decide +kernel
theorem dX7_sitSo_20 : decode cX7_sitSo 20 = .ok (.istore 5, 2) := by decide +kernel
theorem dX7_sitSo_22 : decode cX7_sitSo 22 = .ok (.iload_n 3, 1) := by decide +kernel
theorem dX7_sitSo_23 : decode cX7_sitSo 23 = .ok (.ifCond .eq 26, 3) := by decide +kernel
theorem dX7_sitSo_26 : decode cX7_sitSo 26 = .ok (.aload_n 0, 1) := by decide +kernel
theorem dX7_sitSo_27 : decode cX7_sitSo 27 = .ok (.getfield 25, 3) := by decide +kernel
theorem dX7_sitSo_30 : decode cX7_sitSo 30 = .ok (.bipush 7, 2) := by decide +kernel
theorem dX7_sitSo_32 : decode cX7_sitSo 32 = .ok (.iaload, 1) := by decide +kernel
theorem dX7_sitSo_33 : decode cX7_sitSo 33 = .ok (.aload_n 0, 1) := by decide +kernel
theorem dX7_sitSo_34 : decode cX7_sitSo 34 = .ok (.getfield 16, 3) := by decide +kernel
theorem dX7_sitSo_37 : decode cX7_sitSo 37 = .ok (.iload_n 1, 1) := by decide +kernel
theorem dX7_sitSo_38 : decode cX7_sitSo 38 = .ok (.iload 4, 2) := by decide +kernel
theorem dX7_sitSo_40 : decode cX7_sitSo 40 = .ok (.iadd, 1) := by decide +kernel
theorem dX7_sitSo_41 : decode cX7_sitSo 41 = .ok (.iaload, 1) := by decide +kernel
theorem dX7_sitSo_42 : decode cX7_sitSo 42 = .ok (.if_icmp .ne 7, 3) := by decide +kernel
theorem dX7_sitSo_45 : decode cX7_sitSo 45 = .ok (.iconst 1, 1) := by decide +kernel
theorem dX7_sitSo_46 : decode cX7_sitSo 46 = .ok (.goto 4, 3) := by decide +kernel
theorem dX7_sitSo_49 : decode cX7_sitSo 49 = .ok (.iconst 0, 1) := by decide +kernel
theorem dX7_sitSo_50 : decode cX7_sitSo 50 = .ok (.istore_n 3, 1) := by decide +kernel
theorem dX7_sitSo_51 : decode cX7_sitSo 51 = .ok (.iinc 4 1, 3) := by decide +kernel
theorem dX7_sitSo_54 : decode cX7_sitSo 54 = .ok (.goto (-49), 3) := by decide +kernel
theorem dX7_sitSo_57 : decode cX7_sitSo 57 = .ok (.iload_n 3, 1) := by decide +kernel
theorem dX7_sitSo_58 : decode cX7_sitSo 58 = .ok (.ireturn, 1) := by decide +kernel
theorem dX7_rang_0 : decode cX7_rang 0 = .ok (.aload_n 0, 1) := by decide +kernel
theorem dX7_rang_1 : decode cX7_rang 1 = .ok (.iconst 0, 1) := by decide +kernel
theorem dX7_rang_2 : decode cX7_rang 2 = .ok (.putfield 50, 3) := by decide +kernel
theorem dX7_rang_5 : decode cX7_rang 5 = .ok (.aload_n 0, 1) := by decide +kernel
theorem dX7_rang_6 : decode cX7_rang 6 = .ok (.invokevirtual 186, 3) := by decide +kernel
theorem dX7_rang_9 : decode cX7_rang 9 = .ok (.ifCond .ne 6, 3) := by decide +kernel
theorem dX7_rang_12 : decode cX7_rang 12 = .ok (.ldc 189, 2) := by decide +kernel
theorem dX7_rang_14 : decode cX7_rang 14 = .ok (.ireturn, 1) := by decide +kernel
theorem dX7_rang_15 : decode cX7_rang 15 = .ok (.iload_n 1, 1) := by decide +kernel
theorem dX7_rang_16 : decode cX7_rang 16 = .ok (.invokestatic 64, 3) := by decide +kernel
theorem dX7_rang_19 : decode cX7_rang 19 = .ok (.ifCond .eq 15, 3) := by decide +kernel
theorem dX7_rang_22 : decode cX7_rang 22 = .ok (.iload_n 3, 1) := by decide +kernel
theorem dX7_rang_23 : decode cX7_rang 23 = .ok (.i2l, 1) := by decide +kernel
theorem dX7_rang_24 : decode cX7_rang 24 = .ok (.lconst 1, 1) := by decide +kernel
theorem dX7_rang_25 : decode cX7_rang 25 = .ok (.ldc2_w 220, 3) := by decide +kernel
theorem dX7_rang_28 : decode cX7_rang 28 = .ok (.invokestatic 60, 3) := by decide +kernel
theorem dX7_rang_31 : decode cX7_rang 31 = .ok (.ifCond .ne 6, 3) := by decide +kernel
theorem dX7_rang_34 : decode cX7_rang 34 = .ok (.ldc 70, 2) := by decide +kernel
theorem dX7_rang_36 : decode cX7_rang 36 = .ok (.ireturn, 1) := by decide +kernel
theorem dX7_rang_37 : decode cX7_rang 37 = .ok (.aload_n 0, 1) := by decide +kernel
theorem dX7_rang_38 : decode cX7_rang 38 = .ok (.getfield 7, 3) := by decide +kernel
theorem dX7_rang_41 : decode cX7_rang 41 = .ok (.iload_n 1, 1) := by decide +kernel
theorem dX7_rang_42 : decode cX7_rang 42 = .ok (.iaload, 1) := by decide +kernel
theorem dX7_rang_43 : decode cX7_rang 43 = .ok (.ifCond .ge 9, 3) := by decide +kernel
theorem dX7_rang_46 : decode cX7_rang 46 = .ok (.aload_n 0, 1) := by decide +kernel
theorem dX7_rang_47 : decode cX7_rang 47 = .ok (.iconst 1, 1) := by decide +kernel
theorem dX7_rang_48 : decode cX7_rang 48 = .ok (.invokevirtual 71, 3) := by decide +kernel
theorem dX7_rang_51 : decode cX7_rang 51 = .ok (.ireturn, 1) := by decide +kernel
theorem dX7_rang_52 : decode cX7_rang 52 = .ok (.iload_n 2, 1) := by decide +kernel
theorem dX7_rang_53 : decode cX7_rang 53 = .ok (.ifCond .lt 19, 3) := by decide +kernel
theorem dX7_rang_56 : decode cX7_rang 56 = .ok (.iload_n 2, 1) := by decide +kernel
theorem dX7_rang_57 : decode cX7_rang 57 = .ok (.i2l, 1) := by decide +kernel
theorem dX7_rang_58 : decode cX7_rang 58 = .ok (.iload_n 3, 1) := by decide +kernel
theorem dX7_rang_59 : decode cX7_rang 59 = .ok (.i2l, 1) := by decide +kernel
theorem dX7_rang_60 : decode cX7_rang 60 = .ok (.ladd, 1) := by decide +kernel
theorem dX7_rang_61 : decode cX7_rang 61 = .ok (.aload_n 0, 1) := by decide +kernel
theorem dX7_rang_62 : decode cX7_rang 62 = .ok (.getfield 13, 3) := by decide +kernel
theorem dX7_rang_65 : decode cX7_rang 65 = .ok (.iload_n 1, 1) := by decide +kernel
theorem dX7_rang_66 : decode cX7_rang 66 = .ok (.iaload, 1) := by decide +kernel
theorem dX7_rang_67 : decode cX7_rang 67 = .ok (.i2l, 1) := by decide +kernel
theorem dX7_rang_68 : decode cX7_rang 68 = .ok (.lcmp, 1) := by decide +kernel
theorem dX7_rang_69 : decode cX7_rang 69 = .ok (.ifCond .le 9, 3) := by decide +kernel
theorem dX7_rang_72 : decode cX7_rang 72 = .ok (.aload_n 0, 1) := by decide +kernel
theorem dX7_rang_73 : decode cX7_rang 73 = .ok (.iconst 2, 1) := by decide +kernel
theorem dX7_rang_74 : decode cX7_rang 74 = .ok (.invokevirtual 71, 3) := by decide +kernel
theorem dX7_rang_77 : decode cX7_rang 77 = .ok (.ireturn, 1) := by decide +kernel
theorem dX7_rang_78 : decode cX7_rang 78 = .ok (.aload_n 0, 1) := by decide +kernel
theorem dX7_rang_79 : decode cX7_rang 79 = .ok (.iconst 0, 1) := by decide +kernel
theorem dX7_rang_80 : decode cX7_rang 80 = .ok (.putfield 54, 3) := by decide +kernel
theorem dX7_rang_83 : decode cX7_rang 83 = .ok (.aload_n 0, 1) := by decide +kernel
theorem dX7_rang_84 : decode cX7_rang 84 = .ok (.invokevirtual 212, 3) := by decide +kernel
theorem dX7_rang_87 : decode cX7_rang 87 = .ok (.aload_n 0, 1) := by decide +kernel
theorem dX7_rang_88 : decode cX7_rang 88 = .ok (.bipush 40, 2) := by decide +kernel
theorem dX7_rang_90 : decode cX7_rang 90 = .ok (.iload_n 1, 1) := by decide +kernel
theorem dX7_rang_91 : decode cX7_rang 91 = .ok (.imul, 1) := by decide +kernel
theorem dX7_rang_92 : decode cX7_rang 92 = .ok (.iload_n 2, 1) := by decide +kernel
theorem dX7_rang_93 : decode cX7_rang 93 = .ok (.iadd, 1) := by decide +kernel
theorem dX7_rang_94 : decode cX7_rang 94 = .ok (.iload_n 3, 1) := by decide +kernel
theorem dX7_rang_95 : decode cX7_rang 95 = .ok (.invokevirtual 222, 3) := by decide +kernel
theorem dX7_rang_98 : decode cX7_rang 98 = .ok (.ifCond .eq 9, 3) := by decide +kernel
theorem dX7_rang_101 : decode cX7_rang 101 = .ok (.sipush 128, 3) := by decide +kernel
theorem dX7_rang_104 : decode cX7_rang 104 = .ok (.goto 4, 3) := by decide +kernel
theorem dX7_rang_107 : decode cX7_rang 107 = .ok (.iconst 0, 1) := by decide +kernel
theorem dX7_rang_108 : decode cX7_rang 108 = .ok (.istore 4, 2) := by decide +kernel
theorem dX7_rang_110 : decode cX7_rang 110 = .ok (.iconst 0, 1) := by decide +kernel
theorem dX7_rang_111 : decode cX7_rang 111 = .ok (.istore 5, 2) := by decide +kernel
theorem dX7_rang_113 : decode cX7_rang 113 = .ok (.iload 5, 2) := by decide +kernel
theorem dX7_rang_115 : decode cX7_rang 115 = .ok (.aload_n 0, 1) := by decide +kernel
theorem dX7_rang_116 : decode cX7_rang 116 = .ok (.getfield 19, 3) := by decide +kernel
theorem dX7_rang_119 : decode cX7_rang 119 = .ok (.iconst 3, 1) := by decide +kernel
theorem dX7_rang_120 : decode cX7_rang 120 = .ok (.iaload, 1) := by decide +kernel
theorem dX7_rang_121 : decode cX7_rang 121 = .ok (.if_icmp .ge 70, 3) := by decide +kernel
theorem dX7_rang_124 : decode cX7_rang 124 = .ok (.aload_n 0, 1) := by decide +kernel
theorem dX7_rang_125 : decode cX7_rang 125 = .ok (.invokevirtual 212, 3) := by decide +kernel
theorem dX7_rang_128 : decode cX7_rang 128 = .ok (.aload_n 0, 1) := by decide +kernel
theorem dX7_rang_129 : decode cX7_rang 129 = .ok (.getfield 25, 3) := by decide +kernel
theorem dX7_rang_132 : decode cX7_rang 132 = .ok (.bipush 15, 2) := by decide +kernel
theorem dX7_rang_134 : decode cX7_rang 134 = .ok (.iconst 5, 1) := by decide +kernel
theorem dX7_rang_135 : decode cX7_rang 135 = .ok (.iload 5, 2) := by decide +kernel
theorem dX7_rang_137 : decode cX7_rang 137 = .ok (.imul, 1) := by decide +kernel
theorem dX7_rang_138 : decode cX7_rang 138 = .ok (.iadd, 1) := by decide +kernel
theorem dX7_rang_139 : decode cX7_rang 139 = .ok (.iconst 1, 1) := by decide +kernel
theorem dX7_rang_140 : decode cX7_rang 140 = .ok (.iadd, 1) := by decide +kernel
theorem dX7_rang_141 : decode cX7_rang 141 = .ok (.aload_n 0, 1) := by decide +kernel
theorem dX7_rang_142 : decode cX7_rang 142 = .ok (.getfield 19, 3) := by decide +kernel
theorem dX7_rang_145 : decode cX7_rang 145 = .ok (.iload 5, 2) := by decide +kernel
theorem dX7_rang_147 : decode cX7_rang 147 = .ok (.iconst 1, 1) := by decide +kernel
theorem dX7_rang_148 : decode cX7_rang 148 = .ok (.invokestatic 163, 3) := by decide +kernel
theorem dX7_rang_151 : decode cX7_rang 151 = .ok (.bipush 23, 2) := by decide +kernel
theorem dX7_rang_153 : decode cX7_rang 153 = .ok (.iadd, 1) := by decide +kernel
theorem dX7_rang_154 : decode cX7_rang 154 = .ok (.bipush 24, 2) := by decide +kernel
theorem dX7_rang_156 : decode cX7_rang 156 = .ok (.irem, 1) := by decide +kernel
theorem dX7_rang_157 : decode cX7_rang 157 = .ok (.iastore, 1) := by decide +kernel
theorem dX7_rang_158 : decode cX7_rang 158 = .ok (.iload 4, 2) := by decide +kernel
theorem dX7_rang_160 : decode cX7_rang 160 = .ok (.aload_n 0, 1) := by decide +kernel
theorem dX7_rang_161 : decode cX7_rang 161 = .ok (.bipush 40, 2) := by decide +kernel
theorem dX7_rang_163 : decode cX7_rang 163 = .ok (.iload_n 1, 1) := by decide +kernel
theorem dX7_rang_164 : decode cX7_rang 164 = .ok (.imul, 1) := by decide +kernel
theorem dX7_rang_165 : decode cX7_rang 165 = .ok (.iload_n 2, 1) := by decide +kernel
theorem dX7_rang_166 : decode cX7_rang 166 = .ok (.iadd, 1) := by decide +kernel
theorem dX7_rang_167 : decode cX7_rang 167 = .ok (.iload_n 3, 1) := by decide +kernel
theorem dX7_rang_168 : decode cX7_rang 168 = .ok (.invokevirtual 222, 3) := by decide +kernel
theorem dX7_rang_171 : decode cX7_rang 171 = .ok (.ifCond .eq 10, 3) := by decide +kernel
theorem dX7_rang_174 : decode cX7_rang 174 = .ok (.iconst 1, 1) := by decide +kernel
theorem dX7_rang_175 : decode cX7_rang 175 = .ok (.iload 5, 2) := by decide +kernel
theorem dX7_rang_177 : decode cX7_rang 177 = .ok (.ishl, 1) := by decide +kernel
theorem dX7_rang_178 : decode cX7_rang 178 = .ok (.goto 4, 3) := by decide +kernel
theorem dX7_rang_181 : decode cX7_rang 181 = .ok (.iconst 0, 1) := by decide +kernel
theorem dX7_rang_182 : decode cX7_rang 182 = .ok (.ior, 1) := by decide +kernel
theorem dX7_rang_183 : decode cX7_rang 183 = .ok (.istore 4, 2) := by decide +kernel
theorem dX7_rang_185 : decode cX7_rang 185 = .ok (.iinc 5 1, 3) := by decide +kernel
theorem dX7_rang_188 : decode cX7_rang 188 = .ok (.goto (-75), 3) := by decide +kernel
theorem dX7_rang_191 : decode cX7_rang 191 = .ok (.iload 4, 2) := by decide +kernel
theorem dX7_rang_193 : decode cX7_rang 193 = .ok (.ireturn, 1) := by decide +kernel
theorem dX7_who_0 : decode cX7_who 0 = .ok (.aload_n 0, 1) := by decide +kernel
theorem dX7_who_1 : decode cX7_who 1 = .ok (.iconst 0, 1) := by decide +kernel
theorem dX7_who_2 : decode cX7_who 2 = .ok (.putfield 50, 3) := by decide +kernel
theorem dX7_who_5 : decode cX7_who 5 = .ok (.aload_n 0, 1) := by decide +kernel
theorem dX7_who_6 : decode cX7_who 6 = .ok (.iload_n 1, 1) := by decide +kernel
theorem dX7_who_7 : decode cX7_who 7 = .ok (.invokevirtual 199, 3) := by decide +kernel
theorem dX7_who_10 : decode cX7_who 10 = .ok (.ifCond .eq 23, 3) := by decide +kernel
theorem dX7_who_13 : decode cX7_who 13 = .ok (.iload_n 2, 1) := by decide +kernel
theorem dX7_who_14 : decode cX7_who 14 = .ok (.invokestatic 64, 3) := by decide +kernel
theorem dX7_who_17 : decode cX7_who 17 = .ok (.ifCond .eq 16, 3) := by decide +kernel
theorem dX7_who_20 : decode cX7_who 20 = .ok (.iload 4, 2) := by decide +kernel
theorem dX7_who_22 : decode cX7_who 22 = .ok (.i2l, 1) := by decide +kernel
theorem dX7_who_23 : decode cX7_who 23 = .ok (.lconst 1, 1) := by decide +kernel
theorem dX7_who_24 : decode cX7_who 24 = .ok (.ldc2_w 220, 3) := by decide +kernel
theorem dX7_who_27 : decode cX7_who 27 = .ok (.invokestatic 60, 3) := by decide +kernel
theorem dX7_who_30 : decode cX7_who 30 = .ok (.ifCond .ne 6, 3) := by decide +kernel
theorem dX7_who_33 : decode cX7_who 33 = .ok (.ldc 70, 2) := by decide +kernel
theorem dX7_who_35 : decode cX7_who 35 = .ok (.ireturn, 1) := by decide +kernel
theorem dX7_who_36 : decode cX7_who 36 = .ok (.aload_n 0, 1) := by decide +kernel
theorem dX7_who_37 : decode cX7_who 37 = .ok (.getfield 7, 3) := by decide +kernel
theorem dX7_who_40 : decode cX7_who 40 = .ok (.iload_n 2, 1) := by decide +kernel
theorem dX7_who_41 : decode cX7_who 41 = .ok (.iaload, 1) := by decide +kernel
theorem dX7_who_42 : decode cX7_who 42 = .ok (.ifCond .ge 9, 3) := by decide +kernel
theorem dX7_who_45 : decode cX7_who 45 = .ok (.aload_n 0, 1) := by decide +kernel
theorem dX7_who_46 : decode cX7_who 46 = .ok (.iconst 1, 1) := by decide +kernel
theorem dX7_who_47 : decode cX7_who 47 = .ok (.invokevirtual 71, 3) := by decide +kernel
theorem dX7_who_50 : decode cX7_who 50 = .ok (.ireturn, 1) := by decide +kernel
theorem dX7_who_51 : decode cX7_who 51 = .ok (.iload_n 3, 1) := by decide +kernel
theorem dX7_who_52 : decode cX7_who 52 = .ok (.ifCond .lt 20, 3) := by decide +kernel
theorem dX7_who_55 : decode cX7_who 55 = .ok (.iload_n 3, 1) := by decide +kernel
theorem dX7_who_56 : decode cX7_who 56 = .ok (.i2l, 1) := by decide +kernel
theorem dX7_who_57 : decode cX7_who 57 = .ok (.iload 4, 2) := by decide +kernel
theorem dX7_who_59 : decode cX7_who 59 = .ok (.i2l, 1) := by decide +kernel
theorem dX7_who_60 : decode cX7_who 60 = .ok (.ladd, 1) := by decide +kernel
theorem dX7_who_61 : decode cX7_who 61 = .ok (.aload_n 0, 1) := by decide +kernel
theorem dX7_who_62 : decode cX7_who 62 = .ok (.getfield 13, 3) := by decide +kernel
theorem dX7_who_65 : decode cX7_who 65 = .ok (.iload_n 2, 1) := by decide +kernel
theorem dX7_who_66 : decode cX7_who 66 = .ok (.iaload, 1) := by decide +kernel
theorem dX7_who_67 : decode cX7_who 67 = .ok (.i2l, 1) := by decide +kernel
theorem dX7_who_68 : decode cX7_who 68 = .ok (.lcmp, 1) := by decide +kernel
theorem dX7_who_69 : decode cX7_who 69 = .ok (.ifCond .le 9, 3) := by decide +kernel
theorem dX7_who_72 : decode cX7_who 72 = .ok (.aload_n 0, 1) := by decide +kernel
theorem dX7_who_73 : decode cX7_who 73 = .ok (.iconst 2, 1) := by decide +kernel
theorem dX7_who_74 : decode cX7_who 74 = .ok (.invokevirtual 71, 3) := by decide +kernel
theorem dX7_who_77 : decode cX7_who 77 = .ok (.ireturn, 1) := by decide +kernel
theorem dX7_who_78 : decode cX7_who 78 = .ok (.aload_n 0, 1) := by decide +kernel
theorem dX7_who_79 : decode cX7_who 79 = .ok (.iconst 0, 1) := by decide +kernel
theorem dX7_who_80 : decode cX7_who 80 = .ok (.putfield 54, 3) := by decide +kernel
theorem dX7_who_83 : decode cX7_who 83 = .ok (.iconst 0, 1) := by decide +kernel
theorem dX7_who_84 : decode cX7_who 84 = .ok (.istore 5, 2) := by decide +kernel
theorem dX7_who_86 : decode cX7_who 86 = .ok (.iconst 1, 1) := by decide +kernel
theorem dX7_who_87 : decode cX7_who 87 = .ok (.istore 6, 2) := by decide +kernel
theorem dX7_who_89 : decode cX7_who 89 = .ok (.iload 6, 2) := by decide +kernel
theorem dX7_who_91 : decode cX7_who 91 = .ok (.iconst 5, 1) := by decide +kernel
theorem dX7_who_92 : decode cX7_who 92 = .ok (.if_icmp .gt 128, 3) := by decide +kernel
theorem dX7_who_95 : decode cX7_who 95 = .ok (.aload_n 0, 1) := by decide +kernel
theorem dX7_who_96 : decode cX7_who 96 = .ok (.invokevirtual 212, 3) := by decide +kernel
theorem dX7_who_99 : decode cX7_who 99 = .ok (.aload_n 0, 1) := by decide +kernel
theorem dX7_who_100 : decode cX7_who 100 = .ok (.getfield 25, 3) := by decide +kernel
theorem dX7_who_103 : decode cX7_who 103 = .ok (.bipush 15, 2) := by decide +kernel
theorem dX7_who_105 : decode cX7_who 105 = .ok (.iconst 5, 1) := by decide +kernel
theorem dX7_who_106 : decode cX7_who 106 = .ok (.iload_n 1, 1) := by decide +kernel
theorem dX7_who_107 : decode cX7_who 107 = .ok (.imul, 1) := by decide +kernel
theorem dX7_who_108 : decode cX7_who 108 = .ok (.iadd, 1) := by decide +kernel
theorem dX7_who_109 : decode cX7_who 109 = .ok (.iconst 0, 1) := by decide +kernel
theorem dX7_who_110 : decode cX7_who 110 = .ok (.iadd, 1) := by decide +kernel
theorem dX7_who_111 : decode cX7_who 111 = .ok (.iload 6, 2) := by decide +kernel
theorem dX7_who_113 : decode cX7_who 113 = .ok (.iastore, 1) := by decide +kernel
theorem dX7_who_114 : decode cX7_who 114 = .ok (.iconst 1, 1) := by decide +kernel
theorem dX7_who_115 : decode cX7_who 115 = .ok (.istore 7, 2) := by decide +kernel
theorem dX7_who_117 : decode cX7_who 117 = .ok (.iconst 0, 1) := by decide +kernel
theorem dX7_who_118 : decode cX7_who 118 = .ok (.istore 8, 2) := by decide +kernel
theorem dX7_who_120 : decode cX7_who 120 = .ok (.iload 8, 2) := by decide +kernel
theorem dX7_who_122 : decode cX7_who 122 = .ok (.iload 4, 2) := by decide +kernel
theorem dX7_who_124 : decode cX7_who 124 = .ok (.if_icmp .ge 72, 3) := by decide +kernel
theorem dX7_who_127 : decode cX7_who 127 = .ok (.aload_n 0, 1) := by decide +kernel
theorem dX7_who_128 : decode cX7_who 128 = .ok (.aload_n 0, 1) := by decide +kernel
theorem dX7_who_129 : decode cX7_who 129 = .ok (.getfield 25, 3) := by decide +kernel
theorem dX7_who_132 : decode cX7_who 132 = .ok (.iconst 0, 1) := by decide +kernel
theorem dX7_who_133 : decode cX7_who 133 = .ok (.invokevirtual 180, 3) := by decide +kernel
theorem dX7_who_136 : decode cX7_who 136 = .ok (.istore 9, 2) := by decide +kernel
theorem dX7_who_138 : decode cX7_who 138 = .ok (.aload_n 0, 1) := by decide +kernel
theorem dX7_who_139 : decode cX7_who 139 = .ok (.getfield 25, 3) := by decide +kernel
theorem dX7_who_142 : decode cX7_who 142 = .ok (.iload_n 1, 1) := by decide +kernel
theorem dX7_who_143 : decode cX7_who 143 = .ok (.invokestatic 156, 3) := by decide +kernel
theorem dX7_who_146 : decode cX7_who 146 = .ok (.istore 10, 2) := by decide +kernel
theorem dX7_who_148 : decode cX7_who 148 = .ok (.iload 7, 2) := by decide +kernel
theorem dX7_who_150 : decode cX7_who 150 = .ok (.ifCond .eq 37, 3) := by decide +kernel
theorem dX7_who_153 : decode cX7_who 153 = .ok (.iload 10, 2) := by decide +kernel
theorem dX7_who_155 : decode cX7_who 155 = .ok (.ldc 93, 2) := by decide +kernel
theorem dX7_who_157 : decode cX7_who 157 = .ok (.if_icmp .ne 7, 3) := by decide +kernel
theorem dX7_who_160 : decode cX7_who 160 = .ok (.iconst (-1), 1) := by decide +kernel
theorem dX7_who_161 : decode cX7_who 161 = .ok (.goto 5, 3) := by decide +kernel
theorem dX7_who_164 : decode cX7_who 164 = .ok (.iload 10, 2) := by decide +kernel
theorem dX7_who_166 : decode cX7_who 166 = .ok (.aload_n 0, 1) := by decide +kernel
theorem dX7_who_167 : decode cX7_who 167 = .ok (.getfield 16, 3) := by decide +kernel
theorem dX7_who_170 : decode cX7_who 170 = .ok (.bipush 40, 2) := by decide +kernel
theorem dX7_who_172 : decode cX7_who 172 = .ok (.iload_n 2, 1) := by decide +kernel
theorem dX7_who_173 : decode cX7_who 173 = .ok (.imul, 1) := by decide +kernel
theorem dX7_who_174 : decode cX7_who 174 = .ok (.iload_n 3, 1) := by decide +kernel
theorem dX7_who_175 : decode cX7_who 175 = .ok (.iadd, 1) := by decide +kernel
theorem dX7_who_176 : decode cX7_who 176 = .ok (.iload 8, 2) := by decide +kernel
theorem dX7_who_178 : decode cX7_who 178 = .ok (.iadd, 1) := by decide +kernel
theorem dX7_who_179 : decode cX7_who 179 = .ok (.iaload, 1) := by decide +kernel
theorem dX7_who_180 : decode cX7_who 180 = .ok (.if_icmp .ne 7, 3) := by decide +kernel
theorem dX7_who_183 : decode cX7_who 183 = .ok (.iconst 1, 1) := by decide +kernel
theorem dX7_who_184 : decode cX7_who 184 = .ok (.goto 4, 3) := by decide +kernel
theorem dX7_who_187 : decode cX7_who 187 = .ok (.iconst 0, 1) := by decide +kernel
theorem dX7_who_188 : decode cX7_who 188 = .ok (.istore 7, 2) := by decide +kernel
theorem dX7_who_190 : decode cX7_who 190 = .ok (.iinc 8 1, 3) := by decide +kernel
theorem dX7_who_193 : decode cX7_who 193 = .ok (.goto (-73), 3) := by decide +kernel
theorem dX7_who_196 : decode cX7_who 196 = .ok (.iload 5, 2) := by decide +kernel
theorem dX7_who_198 : decode cX7_who 198 = .ok (.iload 7, 2) := by decide +kernel
theorem dX7_who_200 : decode cX7_who 200 = .ok (.ifCond .eq 10, 3) := by decide +kernel
theorem dX7_who_203 : decode cX7_who 203 = .ok (.iconst 1, 1) := by decide +kernel
theorem dX7_who_204 : decode cX7_who 204 = .ok (.iload 6, 2) := by decide +kernel
theorem dX7_who_206 : decode cX7_who 206 = .ok (.ishl, 1) := by decide +kernel
theorem dX7_who_207 : decode cX7_who 207 = .ok (.goto 4, 3) := by decide +kernel
theorem dX7_who_210 : decode cX7_who 210 = .ok (.iconst 0, 1) := by decide +kernel
theorem dX7_who_211 : decode cX7_who 211 = .ok (.ior, 1) := by decide +kernel
theorem dX7_who_212 : decode cX7_who 212 = .ok (.istore 5, 2) := by decide +kernel
theorem dX7_who_214 : decode cX7_who 214 = .ok (.iinc 6 1, 3) := by decide +kernel
theorem dX7_who_217 : decode cX7_who 217 = .ok (.goto (-128), 3) := by decide +kernel
theorem dX7_who_220 : decode cX7_who 220 = .ok (.iload 5, 2) := by decide +kernel
theorem dX7_who_222 : decode cX7_who 222 = .ok (.ireturn, 1) := by decide +kernel
theorem dX7_elm_0 : decode cX7_elm 0 = .ok (.aload_n 0, 1) := by decide +kernel
theorem dX7_elm_1 : decode cX7_elm 1 = .ok (.iconst 0, 1) := by decide +kernel
theorem dX7_elm_2 : decode cX7_elm 2 = .ok (.putfield 50, 3) := by decide +kernel
theorem dX7_elm_5 : decode cX7_elm 5 = .ok (.aload_n 0, 1) := by decide +kernel
theorem dX7_elm_6 : decode cX7_elm 6 = .ok (.invokevirtual 186, 3) := by decide +kernel
theorem dX7_elm_9 : decode cX7_elm 9 = .ok (.ifCond .ne 6, 3) := by decide +kernel
theorem dX7_elm_12 : decode cX7_elm 12 = .ok (.ldc 189, 2) := by decide +kernel
theorem dX7_elm_14 : decode cX7_elm 14 = .ok (.ireturn, 1) := by decide +kernel
theorem dX7_elm_15 : decode cX7_elm 15 = .ok (.iload_n 1, 1) := by decide +kernel
theorem dX7_elm_16 : decode cX7_elm 16 = .ok (.i2l, 1) := by decide +kernel
theorem dX7_elm_17 : decode cX7_elm 17 = .ok (.lconst 1, 1) := by decide +kernel
theorem dX7_elm_18 : decode cX7_elm 18 = .ok (.ldc2_w 210, 3) := by decide +kernel
theorem dX7_elm_21 : decode cX7_elm 21 = .ok (.invokestatic 60, 3) := by decide +kernel
theorem dX7_elm_24 : decode cX7_elm 24 = .ok (.ifCond .ne 6, 3) := by decide +kernel
theorem dX7_elm_27 : decode cX7_elm 27 = .ok (.ldc 70, 2) := by decide +kernel
theorem dX7_elm_29 : decode cX7_elm 29 = .ok (.ireturn, 1) := by decide +kernel
theorem dX7_elm_30 : decode cX7_elm 30 = .ok (.aload_n 0, 1) := by decide +kernel
theorem dX7_elm_31 : decode cX7_elm 31 = .ok (.invokevirtual 212, 3) := by decide +kernel
theorem dX7_elm_34 : decode cX7_elm 34 = .ok (.aload_n 0, 1) := by decide +kernel
theorem dX7_elm_35 : decode cX7_elm 35 = .ok (.aload_n 0, 1) := by decide +kernel
theorem dX7_elm_36 : decode cX7_elm 36 = .ok (.getfield 25, 3) := by decide +kernel
theorem dX7_elm_39 : decode cX7_elm 39 = .ok (.iload_n 1, 1) := by decide +kernel
theorem dX7_elm_40 : decode cX7_elm 40 = .ok (.invokevirtual 183, 3) := by decide +kernel
theorem dX7_elm_43 : decode cX7_elm 43 = .ok (.istore_n 2, 1) := by decide +kernel
theorem dX7_elm_44 : decode cX7_elm 44 = .ok (.iconst 0, 1) := by decide +kernel
theorem dX7_elm_45 : decode cX7_elm 45 = .ok (.istore_n 3, 1) := by decide +kernel
theorem dX7_elm_46 : decode cX7_elm 46 = .ok (.iload_n 3, 1) := by decide +kernel
theorem dX7_elm_47 : decode cX7_elm 47 = .ok (.aload_n 0, 1) := by decide +kernel
theorem dX7_elm_48 : decode cX7_elm 48 = .ok (.getfield 19, 3) := by decide +kernel
theorem dX7_elm_51 : decode cX7_elm 51 = .ok (.iconst 3, 1) := by decide +kernel
theorem dX7_elm_52 : decode cX7_elm 52 = .ok (.iaload, 1) := by decide +kernel
theorem dX7_elm_53 : decode cX7_elm 53 = .ok (.if_icmp .ge 24, 3) := by decide +kernel
theorem dX7_elm_56 : decode cX7_elm 56 = .ok (.aload_n 0, 1) := by decide +kernel
theorem dX7_elm_57 : decode cX7_elm 57 = .ok (.getfield 37, 3) := by decide +kernel
theorem dX7_elm_60 : decode cX7_elm 60 = .ok (.iload_n 3, 1) := by decide +kernel
theorem dX7_elm_61 : decode cX7_elm 61 = .ok (.aload_n 0, 1) := by decide +kernel
theorem dX7_elm_62 : decode cX7_elm 62 = .ok (.getfield 25, 3) := by decide +kernel
theorem dX7_elm_65 : decode cX7_elm 65 = .ok (.iload_n 3, 1) := by decide +kernel
theorem dX7_elm_66 : decode cX7_elm 66 = .ok (.iconst 3, 1) := by decide +kernel
theorem dX7_elm_67 : decode cX7_elm 67 = .ok (.invokestatic 163, 3) := by decide +kernel
theorem dX7_elm_70 : decode cX7_elm 70 = .ok (.iastore, 1) := by decide +kernel
theorem dX7_elm_71 : decode cX7_elm 71 = .ok (.iinc 3 1, 3) := by decide +kernel
theorem dX7_elm_74 : decode cX7_elm 74 = .ok (.goto (-28), 3) := by decide +kernel
theorem dX7_elm_77 : decode cX7_elm 77 = .ok (.aload_n 0, 1) := by decide +kernel
theorem dX7_elm_78 : decode cX7_elm 78 = .ok (.invokevirtual 212, 3) := by decide +kernel
theorem dX7_elm_81 : decode cX7_elm 81 = .ok (.aload_n 0, 1) := by decide +kernel
theorem dX7_elm_82 : decode cX7_elm 82 = .ok (.getfield 25, 3) := by decide +kernel
theorem dX7_elm_85 : decode cX7_elm 85 = .ok (.iconst 2, 1) := by decide +kernel
theorem dX7_elm_86 : decode cX7_elm 86 = .ok (.dup2, 1) := by decide +kernel
theorem dX7_elm_87 : decode cX7_elm 87 = .ok (.iaload, 1) := by decide +kernel
theorem dX7_elm_88 : decode cX7_elm 88 = .ok (.iconst 1, 1) := by decide +kernel
theorem dX7_elm_89 : decode cX7_elm 89 = .ok (.isub, 1) := by decide +kernel
theorem dX7_elm_90 : decode cX7_elm 90 = .ok (.iastore, 1) := by decide +kernel
theorem dX7_elm_91 : decode cX7_elm 91 = .ok (.aload_n 0, 1) := by decide +kernel
theorem dX7_elm_92 : decode cX7_elm 92 = .ok (.aload_n 0, 1) := by decide +kernel
theorem dX7_elm_93 : decode cX7_elm 93 = .ok (.getfield 25, 3) := by decide +kernel
theorem dX7_elm_96 : decode cX7_elm 96 = .ok (.iload_n 1, 1) := by decide +kernel
theorem dX7_elm_97 : decode cX7_elm 97 = .ok (.invokevirtual 183, 3) := by decide +kernel
theorem dX7_elm_100 : decode cX7_elm 100 = .ok (.istore_n 2, 1) := by decide +kernel
theorem dX7_elm_101 : decode cX7_elm 101 = .ok (.iconst 0, 1) := by decide +kernel
theorem dX7_elm_102 : decode cX7_elm 102 = .ok (.istore_n 3, 1) := by decide +kernel
theorem dX7_elm_103 : decode cX7_elm 103 = .ok (.iconst 0, 1) := by decide +kernel
theorem dX7_elm_104 : decode cX7_elm 104 = .ok (.istore 4, 2) := by decide +kernel
theorem dX7_elm_106 : decode cX7_elm 106 = .ok (.iload 4, 2) := by decide +kernel
theorem dX7_elm_108 : decode cX7_elm 108 = .ok (.aload_n 0, 1) := by decide +kernel
theorem dX7_elm_109 : decode cX7_elm 109 = .ok (.getfield 19, 3) := by decide +kernel
theorem dX7_elm_112 : decode cX7_elm 112 = .ok (.iconst 3, 1) := by decide +kernel
theorem dX7_elm_113 : decode cX7_elm 113 = .ok (.iaload, 1) := by decide +kernel
theorem dX7_elm_114 : decode cX7_elm 114 = .ok (.if_icmp .ge 40, 3) := by decide +kernel
theorem dX7_elm_117 : decode cX7_elm 117 = .ok (.iload_n 3, 1) := by decide +kernel
theorem dX7_elm_118 : decode cX7_elm 118 = .ok (.aload_n 0, 1) := by decide +kernel
theorem dX7_elm_119 : decode cX7_elm 119 = .ok (.getfield 25, 3) := by decide +kernel
theorem dX7_elm_122 : decode cX7_elm 122 = .ok (.iload 4, 2) := by decide +kernel
theorem dX7_elm_124 : decode cX7_elm 124 = .ok (.iconst 3, 1) := by decide +kernel
theorem dX7_elm_125 : decode cX7_elm 125 = .ok (.invokestatic 163, 3) := by decide +kernel
theorem dX7_elm_128 : decode cX7_elm 128 = .ok (.aload_n 0, 1) := by decide +kernel
theorem dX7_elm_129 : decode cX7_elm 129 = .ok (.getfield 37, 3) := by decide +kernel
theorem dX7_elm_132 : decode cX7_elm 132 = .ok (.iload 4, 2) := by decide +kernel
theorem dX7_elm_134 : decode cX7_elm 134 = .ok (.iaload, 1) := by decide +kernel
theorem dX7_elm_135 : decode cX7_elm 135 = .ok (.if_icmp .ge 10, 3) := by decide +kernel
theorem dX7_elm_138 : decode cX7_elm 138 = .ok (.iconst 1, 1) := by decide +kernel
theorem dX7_elm_139 : decode cX7_elm 139 = .ok (.iload 4, 2) := by decide +kernel
theorem dX7_elm_141 : decode cX7_elm 141 = .ok (.ishl, 1) := by decide +kernel
theorem dX7_elm_142 : decode cX7_elm 142 = .ok (.goto 4, 3) := by decide +kernel
theorem dX7_elm_145 : decode cX7_elm 145 = .ok (.iconst 0, 1) := by decide +kernel
theorem dX7_elm_146 : decode cX7_elm 146 = .ok (.ior, 1) := by decide +kernel
theorem dX7_elm_147 : decode cX7_elm 147 = .ok (.istore_n 3, 1) := by decide +kernel
theorem dX7_elm_148 : decode cX7_elm 148 = .ok (.iinc 4 1, 3) := by decide +kernel
theorem dX7_elm_151 : decode cX7_elm 151 = .ok (.goto (-45), 3) := by decide +kernel
theorem dX7_elm_154 : decode cX7_elm 154 = .ok (.iload_n 3, 1) := by decide +kernel
theorem dX7_elm_155 : decode cX7_elm 155 = .ok (.ireturn, 1) := by decide +kernel
theorem dX7_lasts_0 : decode cX7_lasts 0 = .ok (.aload_n 0, 1) := by decide +kernel
theorem dX7_lasts_1 : decode cX7_lasts 1 = .ok (.iconst 0, 1) := by decide +kernel
theorem dX7_lasts_2 : decode cX7_lasts 2 = .ok (.putfield 50, 3) := by decide +kernel
theorem dX7_lasts_5 : decode cX7_lasts 5 = .ok (.aload_n 0, 1) := by decide +kernel
theorem dX7_lasts_6 : decode cX7_lasts 6 = .ok (.invokevirtual 186, 3) := by decide +kernel
theorem dX7_lasts_9 : decode cX7_lasts 9 = .ok (.ifCond .ne 6, 3) := by decide +kernel
theorem dX7_lasts_12 : decode cX7_lasts 12 = .ok (.ldc 189, 2) := by decide +kernel
theorem dX7_lasts_14 : decode cX7_lasts 14 = .ok (.ireturn, 1) := by decide +kernel
theorem dX7_lasts_15 : decode cX7_lasts 15 = .ok (.iconst 0, 1) := by decide +kernel
theorem dX7_lasts_16 : decode cX7_lasts 16 = .ok (.istore_n 1, 1) := by decide +kernel
theorem dX7_lasts_17 : decode cX7_lasts 17 = .ok (.iconst 0, 1) := by decide +kernel
theorem dX7_lasts_18 : decode cX7_lasts 18 = .ok (.istore_n 2, 1) := by decide +kernel
theorem dX7_lasts_19 : decode cX7_lasts 19 = .ok (.iload_n 2, 1) := by decide +kernel
theorem dX7_lasts_20 : decode cX7_lasts 20 = .ok (.bipush 24, 2) := by decide +kernel
theorem dX7_lasts_22 : decode cX7_lasts 22 = .ok (.if_icmp .ge 28, 3) := by decide +kernel
theorem dX7_lasts_25 : decode cX7_lasts 25 = .ok (.iload_n 1, 1) := by decide +kernel
theorem dX7_lasts_26 : decode cX7_lasts 26 = .ok (.aload_n 0, 1) := by decide +kernel
theorem dX7_lasts_27 : decode cX7_lasts 27 = .ok (.getfield 19, 3) := by decide +kernel
theorem dX7_lasts_30 : decode cX7_lasts 30 = .ok (.iload_n 2, 1) := by decide +kernel
theorem dX7_lasts_31 : decode cX7_lasts 31 = .ok (.invokestatic 152, 3) := by decide +kernel
theorem dX7_lasts_34 : decode cX7_lasts 34 = .ok (.ifCond .le 7, 3) := by decide +kernel
theorem dX7_lasts_37 : decode cX7_lasts 37 = .ok (.iconst 1, 1) := by decide +kernel
theorem dX7_lasts_38 : decode cX7_lasts 38 = .ok (.goto 4, 3) := by decide +kernel
theorem dX7_lasts_41 : decode cX7_lasts 41 = .ok (.iconst 0, 1) := by decide +kernel
theorem dX7_lasts_42 : decode cX7_lasts 42 = .ok (.iadd, 1) := by decide +kernel
theorem dX7_lasts_43 : decode cX7_lasts 43 = .ok (.istore_n 1, 1) := by decide +kernel
theorem dX7_lasts_44 : decode cX7_lasts 44 = .ok (.iinc 2 1, 3) := by decide +kernel
theorem dX7_lasts_47 : decode cX7_lasts 47 = .ok (.goto (-28), 3) := by decide +kernel
theorem dX7_lasts_50 : decode cX7_lasts 50 = .ok (.iload_n 1, 1) := by decide +kernel
theorem dX7_lasts_51 : decode cX7_lasts 51 = .ok (.ireturn, 1) := by decide +kernel
theorem dX7_wager_0 : decode cX7_wager 0 = .ok (.aload_n 0, 1) := by decide +kernel
theorem dX7_wager_1 : decode cX7_wager 1 = .ok (.iconst 0, 1) := by decide +kernel
theorem dX7_wager_2 : decode cX7_wager 2 = .ok (.putfield 50, 3) := by decide +kernel
theorem dX7_wager_5 : decode cX7_wager 5 = .ok (.aload_n 0, 1) := by decide +kernel
theorem dX7_wager_6 : decode cX7_wager 6 = .ok (.iload_n 1, 1) := by decide +kernel
theorem dX7_wager_7 : decode cX7_wager 7 = .ok (.invokevirtual 199, 3) := by decide +kernel
theorem dX7_wager_10 : decode cX7_wager 10 = .ok (.ifCond .eq 28, 3) := by decide +kernel
theorem dX7_wager_13 : decode cX7_wager 13 = .ok (.aload_n 0, 1) := by decide +kernel
theorem dX7_wager_14 : decode cX7_wager 14 = .ok (.iload_n 2, 1) := by decide +kernel
theorem dX7_wager_15 : decode cX7_wager 15 = .ok (.invokevirtual 199, 3) := by decide +kernel
theorem dX7_wager_18 : decode cX7_wager 18 = .ok (.ifCond .eq 20, 3) := by decide +kernel
theorem dX7_wager_21 : decode cX7_wager 21 = .ok (.iload_n 1, 1) := by decide +kernel
theorem dX7_wager_22 : decode cX7_wager 22 = .ok (.iload_n 2, 1) := by decide +kernel
theorem dX7_wager_23 : decode cX7_wager 23 = .ok (.if_icmp .eq 15, 3) := by decide +kernel
theorem dX7_wager_26 : decode cX7_wager 26 = .ok (.iload_n 3, 1) := by decide +kernel
theorem dX7_wager_27 : decode cX7_wager 27 = .ok (.i2l, 1) := by decide +kernel
theorem dX7_wager_28 : decode cX7_wager 28 = .ok (.lconst 1, 1) := by decide +kernel
theorem dX7_wager_29 : decode cX7_wager 29 = .ok (.ldc2_w 210, 3) := by decide +kernel
theorem dX7_wager_32 : decode cX7_wager 32 = .ok (.invokestatic 60, 3) := by decide +kernel
theorem dX7_wager_35 : decode cX7_wager 35 = .ok (.ifCond .ne 6, 3) := by decide +kernel
theorem dX7_wager_38 : decode cX7_wager 38 = .ok (.ldc 70, 2) := by decide +kernel
theorem dX7_wager_40 : decode cX7_wager 40 = .ok (.ireturn, 1) := by decide +kernel
theorem dX7_wager_41 : decode cX7_wager 41 = .ok (.aload_n 0, 1) := by decide +kernel
theorem dX7_wager_42 : decode cX7_wager 42 = .ok (.invokevirtual 212, 3) := by decide +kernel
theorem dX7_wager_45 : decode cX7_wager 45 = .ok (.aload_n 0, 1) := by decide +kernel
theorem dX7_wager_46 : decode cX7_wager 46 = .ok (.iload_n 1, 1) := by decide +kernel
theorem dX7_wager_47 : decode cX7_wager 47 = .ok (.iload_n 3, 1) := by decide +kernel
theorem dX7_wager_48 : decode cX7_wager 48 = .ok (.invokevirtual 215, 3) := by decide +kernel
theorem dX7_wager_51 : decode cX7_wager 51 = .ok (.istore 4, 2) := by decide +kernel
theorem dX7_wager_53 : decode cX7_wager 53 = .ok (.sipush 1000, 3) := by decide +kernel
theorem dX7_wager_56 : decode cX7_wager 56 = .ok (.iload 4, 2) := by decide +kernel
theorem dX7_wager_58 : decode cX7_wager 58 = .ok (.iadd, 1) := by decide +kernel
theorem dX7_wager_59 : decode cX7_wager 59 = .ok (.aload_n 0, 1) := by decide +kernel
theorem dX7_wager_60 : decode cX7_wager 60 = .ok (.getfield 25, 3) := by decide +kernel
theorem dX7_wager_63 : decode cX7_wager 63 = .ok (.iload_n 2, 1) := by decide +kernel
theorem dX7_wager_64 : decode cX7_wager 64 = .ok (.iconst 3, 1) := by decide +kernel
theorem dX7_wager_65 : decode cX7_wager 65 = .ok (.invokestatic 163, 3) := by decide +kernel
theorem dX7_wager_68 : decode cX7_wager 68 = .ok (.isub, 1) := by decide +kernel
theorem dX7_wager_69 : decode cX7_wager 69 = .ok (.ireturn, 1) := by decide +kernel
theorem dX7_calls_0 : decode cX7_calls 0 = .ok (.aload_n 0, 1) := by decide +kernel
theorem dX7_calls_1 : decode cX7_calls 1 = .ok (.iconst 0, 1) := by decide +kernel
theorem dX7_calls_2 : decode cX7_calls 2 = .ok (.putfield 50, 3) := by decide +kernel
theorem dX7_calls_5 : decode cX7_calls 5 = .ok (.aload_n 0, 1) := by decide +kernel
theorem dX7_calls_6 : decode cX7_calls 6 = .ok (.invokevirtual 186, 3) := by decide +kernel
theorem dX7_calls_9 : decode cX7_calls 9 = .ok (.ifCond .ne 6, 3) := by decide +kernel
theorem dX7_calls_12 : decode cX7_calls 12 = .ok (.ldc 189, 2) := by decide +kernel
theorem dX7_calls_14 : decode cX7_calls 14 = .ok (.ireturn, 1) := by decide +kernel
theorem dX7_calls_15 : decode cX7_calls 15 = .ok (.iload_n 1, 1) := by decide +kernel
theorem dX7_calls_16 : decode cX7_calls 16 = .ok (.i2l, 1) := by decide +kernel
theorem dX7_calls_17 : decode cX7_calls 17 = .ok (.lconst 1, 1) := by decide +kernel
theorem dX7_calls_18 : decode cX7_calls 18 = .ok (.ldc2_w 210, 3) := by decide +kernel
theorem dX7_calls_21 : decode cX7_calls 21 = .ok (.invokestatic 60, 3) := by decide +kernel
theorem dX7_calls_24 : decode cX7_calls 24 = .ok (.ifCond .ne 6, 3) := by decide +kernel
theorem dX7_calls_27 : decode cX7_calls 27 = .ok (.ldc 70, 2) := by decide +kernel
theorem dX7_calls_29 : decode cX7_calls 29 = .ok (.ireturn, 1) := by decide +kernel
theorem dX7_calls_30 : decode cX7_calls 30 = .ok (.aload_n 0, 1) := by decide +kernel
theorem dX7_calls_31 : decode cX7_calls 31 = .ok (.invokevirtual 212, 3) := by decide +kernel
theorem dX7_calls_34 : decode cX7_calls 34 = .ok (.aload_n 0, 1) := by decide +kernel
theorem dX7_calls_35 : decode cX7_calls 35 = .ok (.aload_n 0, 1) := by decide +kernel
theorem dX7_calls_36 : decode cX7_calls 36 = .ok (.getfield 25, 3) := by decide +kernel
theorem dX7_calls_39 : decode cX7_calls 39 = .ok (.iload_n 1, 1) := by decide +kernel
theorem dX7_calls_40 : decode cX7_calls 40 = .ok (.invokevirtual 183, 3) := by decide +kernel
theorem dX7_calls_43 : decode cX7_calls 43 = .ok (.ireturn, 1) := by decide +kernel
theorem dX7_late_0 : decode cX7_late 0 = .ok (.aload_n 0, 1) := by decide +kernel
theorem dX7_late_1 : decode cX7_late 1 = .ok (.iconst 0, 1) := by decide +kernel
theorem dX7_late_2 : decode cX7_late 2 = .ok (.putfield 50, 3) := by decide +kernel
theorem dX7_late_5 : decode cX7_late 5 = .ok (.aload_n 0, 1) := by decide +kernel
theorem dX7_late_6 : decode cX7_late 6 = .ok (.iload_n 1, 1) := by decide +kernel
theorem dX7_late_7 : decode cX7_late 7 = .ok (.invokevirtual 199, 3) := by decide +kernel
theorem dX7_late_10 : decode cX7_late 10 = .ok (.ifCond .eq 25, 3) := by decide +kernel
theorem dX7_late_13 : decode cX7_late 13 = .ok (.iload_n 2, 1) := by decide +kernel
theorem dX7_late_14 : decode cX7_late 14 = .ok (.i2l, 1) := by decide +kernel
theorem dX7_late_15 : decode cX7_late 15 = .ok (.lconst 0, 1) := by decide +kernel
theorem dX7_late_16 : decode cX7_late 16 = .ok (.ldc2_w 226, 3) := by decide +kernel
theorem dX7_late_19 : decode cX7_late 19 = .ok (.invokestatic 60, 3) := by decide +kernel
theorem dX7_late_22 : decode cX7_late 22 = .ok (.ifCond .eq 13, 3) := by decide +kernel
theorem dX7_late_25 : decode cX7_late 25 = .ok (.iload_n 3, 1) := by decide +kernel
theorem dX7_late_26 : decode cX7_late 26 = .ok (.i2l, 1) := by decide +kernel
theorem dX7_late_27 : decode cX7_late 27 = .ok (.lconst 0, 1) := by decide +kernel
theorem dX7_late_28 : decode cX7_late 28 = .ok (.lconst 1, 1) := by decide +kernel
theorem dX7_late_29 : decode cX7_late 29 = .ok (.invokestatic 60, 3) := by decide +kernel
theorem dX7_late_32 : decode cX7_late 32 = .ok (.ifCond .ne 7, 3) := by decide +kernel
theorem dX7_late_35 : decode cX7_late 35 = .ok (.ldc2_w 228, 3) := by decide +kernel
theorem dX7_late_38 : decode cX7_late 38 = .ok (.lreturn, 1) := by decide +kernel
theorem dX7_late_39 : decode cX7_late 39 = .ok (.iconst 0, 1) := by decide +kernel
theorem dX7_late_40 : decode cX7_late 40 = .ok (.istore 4, 2) := by decide +kernel
theorem dX7_late_42 : decode cX7_late 42 = .ok (.iconst 0, 1) := by decide +kernel
theorem dX7_late_43 : decode cX7_late 43 = .ok (.istore 5, 2) := by decide +kernel
theorem dX7_late_45 : decode cX7_late 45 = .ok (.iload 5, 2) := by decide +kernel
theorem dX7_late_47 : decode cX7_late 47 = .ok (.aload_n 0, 1) := by decide +kernel
theorem dX7_late_48 : decode cX7_late 48 = .ok (.getfield 19, 3) := by decide +kernel
theorem dX7_late_51 : decode cX7_late 51 = .ok (.bipush 7, 2) := by decide +kernel
theorem dX7_late_53 : decode cX7_late 53 = .ok (.iaload, 1) := by decide +kernel
theorem dX7_late_54 : decode cX7_late 54 = .ok (.if_icmp .ge 60, 3) := by decide +kernel
theorem dX7_late_57 : decode cX7_late 57 = .ok (.iload 4, 2) := by decide +kernel
theorem dX7_late_59 : decode cX7_late 59 = .ok (.aload_n 0, 1) := by decide +kernel
theorem dX7_late_60 : decode cX7_late 60 = .ok (.getfield 19, 3) := by decide +kernel
theorem dX7_late_63 : decode cX7_late 63 = .ok (.aload_n 0, 1) := by decide +kernel
theorem dX7_late_64 : decode cX7_late 64 = .ok (.getfield 19, 3) := by decide +kernel
theorem dX7_late_67 : decode cX7_late 67 = .ok (.bipush 8, 2) := by decide +kernel
theorem dX7_late_69 : decode cX7_late 69 = .ok (.iload 5, 2) := by decide +kernel
theorem dX7_late_71 : decode cX7_late 71 = .ok (.iadd, 1) := by decide +kernel
theorem dX7_late_72 : decode cX7_late 72 = .ok (.iaload, 1) := by decide +kernel
theorem dX7_late_73 : decode cX7_late 73 = .ok (.iconst 1, 1) := by decide +kernel
theorem dX7_late_74 : decode cX7_late 74 = .ok (.invokestatic 163, 3) := by decide +kernel
theorem dX7_late_77 : decode cX7_late 77 = .ok (.aload_n 0, 1) := by decide +kernel
theorem dX7_late_78 : decode cX7_late 78 = .ok (.getfield 19, 3) := by decide +kernel
theorem dX7_late_81 : decode cX7_late 81 = .ok (.iconst 4, 1) := by decide +kernel
theorem dX7_late_82 : decode cX7_late 82 = .ok (.iaload, 1) := by decide +kernel
theorem dX7_late_83 : decode cX7_late 83 = .ok (.bipush 24, 2) := by decide +kernel
theorem dX7_late_85 : decode cX7_late 85 = .ok (.irem, 1) := by decide +kernel
theorem dX7_late_86 : decode cX7_late 86 = .ok (.if_icmp .ne 18, 3) := by decide +kernel
theorem dX7_late_89 : decode cX7_late 89 = .ok (.iconst 1, 1) := by decide +kernel
theorem dX7_late_90 : decode cX7_late 90 = .ok (.aload_n 0, 1) := by decide +kernel
theorem dX7_late_91 : decode cX7_late 91 = .ok (.getfield 19, 3) := by decide +kernel
theorem dX7_late_94 : decode cX7_late 94 = .ok (.bipush 8, 2) := by decide +kernel
theorem dX7_late_96 : decode cX7_late 96 = .ok (.iload 5, 2) := by decide +kernel
theorem dX7_late_98 : decode cX7_late 98 = .ok (.iadd, 1) := by decide +kernel
theorem dX7_late_99 : decode cX7_late 99 = .ok (.iaload, 1) := by decide +kernel
theorem dX7_late_100 : decode cX7_late 100 = .ok (.ishl, 1) := by decide +kernel
theorem dX7_late_101 : decode cX7_late 101 = .ok (.goto 4, 3) := by decide +kernel
theorem dX7_late_104 : decode cX7_late 104 = .ok (.iconst 0, 1) := by decide +kernel
theorem dX7_late_105 : decode cX7_late 105 = .ok (.ior, 1) := by decide +kernel
theorem dX7_late_106 : decode cX7_late 106 = .ok (.istore 4, 2) := by decide +kernel
theorem dX7_late_108 : decode cX7_late 108 = .ok (.iinc 5 1, 3) := by decide +kernel
theorem dX7_late_111 : decode cX7_late 111 = .ok (.goto (-66), 3) := by decide +kernel
theorem dX7_late_114 : decode cX7_late 114 = .ok (.lconst 0, 1) := by decide +kernel
theorem dX7_late_115 : decode cX7_late 115 = .ok (.lstore 5, 2) := by decide +kernel
theorem dX7_late_117 : decode cX7_late 117 = .ok (.lconst 0, 1) := by decide +kernel
theorem dX7_late_118 : decode cX7_late 118 = .ok (.lstore 7, 2) := by decide +kernel
theorem dX7_late_120 : decode cX7_late 120 = .ok (.iconst 0, 1) := by decide +kernel
theorem dX7_late_121 : decode cX7_late 121 = .ok (.istore 9, 2) := by decide +kernel
theorem dX7_late_123 : decode cX7_late 123 = .ok (.iload 9, 2) := by decide +kernel
theorem dX7_late_125 : decode cX7_late 125 = .ok (.sipush 128, 3) := by decide +kernel
theorem dX7_late_128 : decode cX7_late 128 = .ok (.if_icmp .ge 134, 3) := by decide +kernel
theorem dX7_late_131 : decode cX7_late 131 = .ok (.iload 9, 2) := by decide +kernel
theorem dX7_late_133 : decode cX7_late 133 = .ok (.iload 4, 2) := by decide +kernel
theorem dX7_late_135 : decode cX7_late 135 = .ok (.iconst (-1), 1) := by decide +kernel
theorem dX7_late_136 : decode cX7_late 136 = .ok (.ixor, 1) := by decide +kernel
theorem dX7_late_137 : decode cX7_late 137 = .ok (.iand, 1) := by decide +kernel
theorem dX7_late_138 : decode cX7_late 138 = .ok (.ifCond .ne 118, 3) := by decide +kernel
theorem dX7_late_141 : decode cX7_late 141 = .ok (.lconst 1, 1) := by decide +kernel
theorem dX7_late_142 : decode cX7_late 142 = .ok (.lstore 10, 2) := by decide +kernel
theorem dX7_late_144 : decode cX7_late 144 = .ok (.iconst 0, 1) := by decide +kernel
theorem dX7_late_145 : decode cX7_late 145 = .ok (.istore 12, 2) := by decide +kernel
theorem dX7_late_147 : decode cX7_late 147 = .ok (.iload 12, 2) := by decide +kernel
theorem dX7_late_149 : decode cX7_late 149 = .ok (.bipush 7, 2) := by decide +kernel
theorem dX7_late_151 : decode cX7_late 151 = .ok (.if_icmp .ge 50, 3) := by decide +kernel
theorem dX7_late_154 : decode cX7_late 154 = .ok (.lload 10, 2) := by decide +kernel
theorem dX7_late_156 : decode cX7_late 156 = .ok (.iload 4, 2) := by decide +kernel
theorem dX7_late_158 : decode cX7_late 158 = .ok (.iload 12, 2) := by decide +kernel
theorem dX7_late_160 : decode cX7_late 160 = .ok (.ishr, 1) := by decide +kernel
theorem dX7_late_161 : decode cX7_late 161 = .ok (.iconst 1, 1) := by decide +kernel
theorem dX7_late_162 : decode cX7_late 162 = .ok (.iand, 1) := by decide +kernel
theorem dX7_late_163 : decode cX7_late 163 = .ok (.ifCond .ne 7, 3) := by decide +kernel
theorem dX7_late_166 : decode cX7_late 166 = .ok (.lconst 1, 1) := by decide +kernel
theorem dX7_late_167 : decode cX7_late 167 = .ok (.goto 25, 3) := by decide +kernel
theorem dX7_late_170 : decode cX7_late 170 = .ok (.iload 9, 2) := by decide +kernel
theorem dX7_late_172 : decode cX7_late 172 = .ok (.iload 12, 2) := by decide +kernel
theorem dX7_late_174 : decode cX7_late 174 = .ok (.ishr, 1) := by decide +kernel
theorem dX7_late_175 : decode cX7_late 175 = .ok (.iconst 1, 1) := by decide +kernel
theorem dX7_late_176 : decode cX7_late 176 = .ok (.iand, 1) := by decide +kernel
theorem dX7_late_177 : decode cX7_late 177 = .ok (.iconst 1, 1) := by decide +kernel
theorem dX7_late_178 : decode cX7_late 178 = .ok (.if_icmp .ne 8, 3) := by decide +kernel
theorem dX7_late_181 : decode cX7_late 181 = .ok (.iload_n 2, 1) := by decide +kernel
theorem dX7_late_182 : decode cX7_late 182 = .ok (.i2l, 1) := by decide +kernel
theorem dX7_late_183 : decode cX7_late 183 = .ok (.goto 9, 3) := by decide +kernel
theorem dX7_late_186 : decode cX7_late 186 = .ok (.ldc2_w 226, 3) := by decide +kernel
theorem dX7_late_189 : decode cX7_late 189 = .ok (.iload_n 2, 1) := by decide +kernel
theorem dX7_late_190 : decode cX7_late 190 = .ok (.i2l, 1) := by decide +kernel
theorem dX7_late_191 : decode cX7_late 191 = .ok (.lsub, 1) := by decide +kernel
theorem dX7_late_192 : decode cX7_late 192 = .ok (.lmul, 1) := by decide +kernel
theorem dX7_late_193 : decode cX7_late 193 = .ok (.lstore 10, 2) := by decide +kernel
theorem dX7_late_195 : decode cX7_late 195 = .ok (.iinc 12 1, 3) := by decide +kernel
theorem dX7_late_198 : decode cX7_late 198 = .ok (.goto (-51), 3) := by decide +kernel
theorem dX7_late_201 : decode cX7_late 201 = .ok (.aload_n 0, 1) := by decide +kernel
theorem dX7_late_202 : decode cX7_late 202 = .ok (.invokevirtual 212, 3) := by decide +kernel
theorem dX7_late_205 : decode cX7_late 205 = .ok (.aload_n 0, 1) := by decide +kernel
theorem dX7_late_206 : decode cX7_late 206 = .ok (.aload_n 0, 1) := by decide +kernel
theorem dX7_late_207 : decode cX7_late 207 = .ok (.getfield 25, 3) := by decide +kernel
theorem dX7_late_210 : decode cX7_late 210 = .ok (.iload 9, 2) := by decide +kernel
theorem dX7_late_212 : decode cX7_late 212 = .ok (.invokevirtual 180, 3) := by decide +kernel
theorem dX7_late_215 : decode cX7_late 215 = .ok (.istore 12, 2) := by decide +kernel
theorem dX7_late_217 : decode cX7_late 217 = .ok (.lload 7, 2) := by decide +kernel
theorem dX7_late_219 : decode cX7_late 219 = .ok (.lload 10, 2) := by decide +kernel
theorem dX7_late_221 : decode cX7_late 221 = .ok (.ladd, 1) := by decide +kernel
theorem dX7_late_222 : decode cX7_late 222 = .ok (.lstore 7, 2) := by decide +kernel
theorem dX7_late_224 : decode cX7_late 224 = .ok (.lload 5, 2) := by decide +kernel
theorem dX7_late_226 : decode cX7_late 226 = .ok (.aload_n 0, 1) := by decide +kernel
theorem dX7_late_227 : decode cX7_late 227 = .ok (.getfield 25, 3) := by decide +kernel
theorem dX7_late_230 : decode cX7_late 230 = .ok (.iload_n 1, 1) := by decide +kernel
theorem dX7_late_231 : decode cX7_late 231 = .ok (.iconst 3, 1) := by decide +kernel
theorem dX7_late_232 : decode cX7_late 232 = .ok (.invokestatic 163, 3) := by decide +kernel
theorem dX7_late_235 : decode cX7_late 235 = .ok (.aload_n 0, 1) := by decide +kernel
theorem dX7_late_236 : decode cX7_late 236 = .ok (.getfield 19, 3) := by decide +kernel
theorem dX7_late_239 : decode cX7_late 239 = .ok (.iload_n 1, 1) := by decide +kernel
theorem dX7_late_240 : decode cX7_late 240 = .ok (.iconst 3, 1) := by decide +kernel
theorem dX7_late_241 : decode cX7_late 241 = .ok (.invokestatic 163, 3) := by decide +kernel
theorem dX7_late_244 : decode cX7_late 244 = .ok (.if_icmp .le 8, 3) := by decide +kernel
theorem dX7_late_247 : decode cX7_late 247 = .ok (.lload 10, 2) := by decide +kernel
theorem dX7_late_249 : decode cX7_late 249 = .ok (.goto 4, 3) := by decide +kernel
theorem dX7_late_252 : decode cX7_late 252 = .ok (.lconst 0, 1) := by decide +kernel
theorem dX7_late_253 : decode cX7_late 253 = .ok (.ladd, 1) := by decide +kernel
theorem dX7_late_254 : decode cX7_late 254 = .ok (.lstore 5, 2) := by decide +kernel
theorem dX7_late_256 : decode cX7_late 256 = .ok (.iinc 9 1, 3) := by decide +kernel
theorem dX7_late_259 : decode cX7_late 259 = .ok (.goto (-136), 3) := by decide +kernel
theorem dX7_late_262 : decode cX7_late 262 = .ok (.lload 5, 2) := by decide +kernel
theorem dX7_late_264 : decode cX7_late 264 = .ok (.lstore 9, 2) := by decide +kernel
theorem dX7_late_266 : decode cX7_late 266 = .ok (.lload 7, 2) := by decide +kernel
theorem dX7_late_268 : decode cX7_late 268 = .ok (.lstore 11, 2) := by decide +kernel
theorem dX7_late_270 : decode cX7_late 270 = .ok (.lload 11, 2) := by decide +kernel
theorem dX7_late_272 : decode cX7_late 272 = .ok (.lconst 0, 1) := by decide +kernel
theorem dX7_late_273 : decode cX7_late 273 = .ok (.lcmp, 1) := by decide +kernel
theorem dX7_late_274 : decode cX7_late 274 = .ok (.ifCond .eq 21, 3) := by decide +kernel
theorem dX7_late_277 : decode cX7_late 277 = .ok (.lload 9, 2) := by decide +kernel
theorem dX7_late_279 : decode cX7_late 279 = .ok (.lload 11, 2) := by decide +kernel
theorem dX7_late_281 : decode cX7_late 281 = .ok (.lrem, 1) := by decide +kernel
theorem dX7_late_282 : decode cX7_late 282 = .ok (.lstore 13, 2) := by decide +kernel
theorem dX7_late_284 : decode cX7_late 284 = .ok (.lload 11, 2) := by decide +kernel
theorem dX7_late_286 : decode cX7_late 286 = .ok (.lstore 9, 2) := by decide +kernel
theorem dX7_late_288 : decode cX7_late 288 = .ok (.lload 13, 2) := by decide +kernel
theorem dX7_late_290 : decode cX7_late 290 = .ok (.lstore 11, 2) := by decide +kernel
theorem dX7_late_292 : decode cX7_late 292 = .ok (.goto (-22), 3) := by decide +kernel
theorem dX7_late_295 : decode cX7_late 295 = .ok (.iload_n 3, 1) := by decide +kernel
theorem dX7_late_296 : decode cX7_late 296 = .ok (.ifCond .ne 8, 3) := by decide +kernel
theorem dX7_late_299 : decode cX7_late 299 = .ok (.lload 5, 2) := by decide +kernel
theorem dX7_late_301 : decode cX7_late 301 = .ok (.goto 5, 3) := by decide +kernel
theorem dX7_late_304 : decode cX7_late 304 = .ok (.lload 7, 2) := by decide +kernel
theorem dX7_late_306 : decode cX7_late 306 = .ok (.lload 9, 2) := by decide +kernel
theorem dX7_late_308 : decode cX7_late 308 = .ok (.ldiv, 1) := by decide +kernel
theorem dX7_late_309 : decode cX7_late 309 = .ok (.lreturn, 1) := by decide +kernel
theorem dX7_drawn_0 : decode cX7_drawn 0 = .ok (.aload_n 0, 1) := by decide +kernel
theorem dX7_drawn_1 : decode cX7_drawn 1 = .ok (.iconst 0, 1) := by decide +kernel
theorem dX7_drawn_2 : decode cX7_drawn 2 = .ok (.putfield 50, 3) := by decide +kernel
theorem dX7_drawn_5 : decode cX7_drawn 5 = .ok (.aload_n 0, 1) := by decide +kernel
theorem dX7_drawn_6 : decode cX7_drawn 6 = .ok (.invokevirtual 186, 3) := by decide +kernel
theorem dX7_drawn_9 : decode cX7_drawn 9 = .ok (.ifCond .ne 6, 3) := by decide +kernel
theorem dX7_drawn_12 : decode cX7_drawn 12 = .ok (.ldc 189, 2) := by decide +kernel
theorem dX7_drawn_14 : decode cX7_drawn 14 = .ok (.ireturn, 1) := by decide +kernel
theorem dX7_drawn_15 : decode cX7_drawn 15 = .ok (.iload_n 1, 1) := by decide +kernel
theorem dX7_drawn_16 : decode cX7_drawn 16 = .ok (.i2l, 1) := by decide +kernel
theorem dX7_drawn_17 : decode cX7_drawn 17 = .ok (.lconst 0, 1) := by decide +kernel
theorem dX7_drawn_18 : decode cX7_drawn 18 = .ok (.ldc2_w 210, 3) := by decide +kernel
theorem dX7_drawn_21 : decode cX7_drawn 21 = .ok (.invokestatic 60, 3) := by decide +kernel
theorem dX7_drawn_24 : decode cX7_drawn 24 = .ok (.ifCond .eq 25, 3) := by decide +kernel
theorem dX7_drawn_27 : decode cX7_drawn 27 = .ok (.iload_n 2, 1) := by decide +kernel
theorem dX7_drawn_28 : decode cX7_drawn 28 = .ok (.i2l, 1) := by decide +kernel
theorem dX7_drawn_29 : decode cX7_drawn 29 = .ok (.lconst 1, 1) := by decide +kernel
theorem dX7_drawn_30 : decode cX7_drawn 30 = .ok (.ldc2_w 230, 3) := by decide +kernel
theorem dX7_drawn_33 : decode cX7_drawn 33 = .ok (.invokestatic 60, 3) := by decide +kernel
theorem dX7_drawn_36 : decode cX7_drawn 36 = .ok (.ifCond .eq 13, 3) := by decide +kernel
theorem dX7_drawn_39 : decode cX7_drawn 39 = .ok (.iload_n 3, 1) := by decide +kernel
theorem dX7_drawn_40 : decode cX7_drawn 40 = .ok (.i2l, 1) := by decide +kernel
theorem dX7_drawn_41 : decode cX7_drawn 41 = .ok (.lconst 0, 1) := by decide +kernel
theorem dX7_drawn_42 : decode cX7_drawn 42 = .ok (.lconst 1, 1) := by decide +kernel
theorem dX7_drawn_43 : decode cX7_drawn 43 = .ok (.invokestatic 60, 3) := by decide +kernel
theorem dX7_drawn_46 : decode cX7_drawn 46 = .ok (.ifCond .ne 6, 3) := by decide +kernel
theorem dX7_drawn_49 : decode cX7_drawn 49 = .ok (.ldc 70, 2) := by decide +kernel
theorem dX7_drawn_51 : decode cX7_drawn 51 = .ok (.ireturn, 1) := by decide +kernel
theorem dX7_drawn_52 : decode cX7_drawn 52 = .ok (.aload_n 0, 1) := by decide +kernel
theorem dX7_drawn_53 : decode cX7_drawn 53 = .ok (.invokevirtual 212, 3) := by decide +kernel
theorem dX7_drawn_56 : decode cX7_drawn 56 = .ok (.iload_n 2, 1) := by decide +kernel
theorem dX7_drawn_57 : decode cX7_drawn 57 = .ok (.i2l, 1) := by decide +kernel
theorem dX7_drawn_58 : decode cX7_drawn 58 = .ok (.lstore 4, 2) := by decide +kernel
theorem dX7_drawn_60 : decode cX7_drawn 60 = .ok (.iconst 0, 1) := by decide +kernel
theorem dX7_drawn_61 : decode cX7_drawn 61 = .ok (.istore 6, 2) := by decide +kernel
theorem dX7_drawn_63 : decode cX7_drawn 63 = .ok (.iconst 0, 1) := by decide +kernel
theorem dX7_drawn_64 : decode cX7_drawn 64 = .ok (.istore 7, 2) := by decide +kernel
theorem dX7_drawn_66 : decode cX7_drawn 66 = .ok (.iload 7, 2) := by decide +kernel
theorem dX7_drawn_68 : decode cX7_drawn 68 = .ok (.iload_n 1, 1) := by decide +kernel
theorem dX7_drawn_69 : decode cX7_drawn 69 = .ok (.if_icmp .ge 69, 3) := by decide +kernel
theorem dX7_drawn_72 : decode cX7_drawn 72 = .ok (.lload 4, 2) := by decide +kernel
theorem dX7_drawn_74 : decode cX7_drawn 74 = .ok (.ldc2_w 232, 3) := by decide +kernel
theorem dX7_drawn_77 : decode cX7_drawn 77 = .ok (.lmul, 1) := by decide +kernel
theorem dX7_drawn_78 : decode cX7_drawn 78 = .ok (.ldc2_w 234, 3) := by decide +kernel
theorem dX7_drawn_81 : decode cX7_drawn 81 = .ok (.lrem, 1) := by decide +kernel
theorem dX7_drawn_82 : decode cX7_drawn 82 = .ok (.lstore 4, 2) := by decide +kernel
theorem dX7_drawn_84 : decode cX7_drawn 84 = .ok (.lload 4, 2) := by decide +kernel
theorem dX7_drawn_86 : decode cX7_drawn 86 = .ok (.aload_n 0, 1) := by decide +kernel
theorem dX7_drawn_87 : decode cX7_drawn 87 = .ok (.getfield 25, 3) := by decide +kernel
theorem dX7_drawn_90 : decode cX7_drawn 90 = .ok (.iconst 3, 1) := by decide +kernel
theorem dX7_drawn_91 : decode cX7_drawn 91 = .ok (.iaload, 1) := by decide +kernel
theorem dX7_drawn_92 : decode cX7_drawn 92 = .ok (.i2l, 1) := by decide +kernel
theorem dX7_drawn_93 : decode cX7_drawn 93 = .ok (.lrem, 1) := by decide +kernel
theorem dX7_drawn_94 : decode cX7_drawn 94 = .ok (.l2i, 1) := by decide +kernel
theorem dX7_drawn_95 : decode cX7_drawn 95 = .ok (.istore 8, 2) := by decide +kernel
theorem dX7_drawn_97 : decode cX7_drawn 97 = .ok (.aload_n 0, 1) := by decide +kernel
theorem dX7_drawn_98 : decode cX7_drawn 98 = .ok (.getfield 25, 3) := by decide +kernel
theorem dX7_drawn_101 : decode cX7_drawn 101 = .ok (.iload 8, 2) := by decide +kernel
theorem dX7_drawn_103 : decode cX7_drawn 103 = .ok (.invokestatic 156, 3) := by decide +kernel
theorem dX7_drawn_106 : decode cX7_drawn 106 = .ok (.ifCond .le 15, 3) := by decide +kernel
theorem dX7_drawn_109 : decode cX7_drawn 109 = .ok (.aload_n 0, 1) := by decide +kernel
theorem dX7_drawn_110 : decode cX7_drawn 110 = .ok (.getfield 25, 3) := by decide +kernel
theorem dX7_drawn_113 : decode cX7_drawn 113 = .ok (.iload 8, 2) := by decide +kernel
theorem dX7_drawn_115 : decode cX7_drawn 115 = .ok (.invokestatic 202, 3) := by decide +kernel
theorem dX7_drawn_118 : decode cX7_drawn 118 = .ok (.iinc 6 1, 3) := by decide +kernel
theorem dX7_drawn_121 : decode cX7_drawn 121 = .ok (.aload_n 0, 1) := by decide +kernel
theorem dX7_drawn_122 : decode cX7_drawn 122 = .ok (.aload_n 0, 1) := by decide +kernel
theorem dX7_drawn_123 : decode cX7_drawn 123 = .ok (.getfield 25, 3) := by decide +kernel
theorem dX7_drawn_126 : decode cX7_drawn 126 = .ok (.iconst 0, 1) := by decide +kernel
theorem dX7_drawn_127 : decode cX7_drawn 127 = .ok (.invokevirtual 180, 3) := by decide +kernel
theorem dX7_drawn_130 : decode cX7_drawn 130 = .ok (.istore 9, 2) := by decide +kernel
theorem dX7_drawn_132 : decode cX7_drawn 132 = .ok (.iinc 7 1, 3) := by decide +kernel
theorem dX7_drawn_135 : decode cX7_drawn 135 = .ok (.goto (-69), 3) := by decide +kernel
theorem dX7_drawn_138 : decode cX7_drawn 138 = .ok (.iconst 0, 1) := by decide +kernel
theorem dX7_drawn_139 : decode cX7_drawn 139 = .ok (.istore 7, 2) := by decide +kernel
theorem dX7_drawn_141 : decode cX7_drawn 141 = .ok (.iconst 0, 1) := by decide +kernel
theorem dX7_drawn_142 : decode cX7_drawn 142 = .ok (.istore 8, 2) := by decide +kernel
theorem dX7_drawn_144 : decode cX7_drawn 144 = .ok (.iload 8, 2) := by decide +kernel
theorem dX7_drawn_146 : decode cX7_drawn 146 = .ok (.aload_n 0, 1) := by decide +kernel
theorem dX7_drawn_147 : decode cX7_drawn 147 = .ok (.getfield 25, 3) := by decide +kernel
theorem dX7_drawn_150 : decode cX7_drawn 150 = .ok (.iconst 3, 1) := by decide +kernel
theorem dX7_drawn_151 : decode cX7_drawn 151 = .ok (.iaload, 1) := by decide +kernel
theorem dX7_drawn_152 : decode cX7_drawn 152 = .ok (.if_icmp .ge 24, 3) := by decide +kernel
theorem dX7_drawn_155 : decode cX7_drawn 155 = .ok (.iload 7, 2) := by decide +kernel
theorem dX7_drawn_157 : decode cX7_drawn 157 = .ok (.aload_n 0, 1) := by decide +kernel
theorem dX7_drawn_158 : decode cX7_drawn 158 = .ok (.getfield 25, 3) := by decide +kernel
theorem dX7_drawn_161 : decode cX7_drawn 161 = .ok (.iload 8, 2) := by decide +kernel
theorem dX7_drawn_163 : decode cX7_drawn 163 = .ok (.iconst 3, 1) := by decide +kernel
theorem dX7_drawn_164 : decode cX7_drawn 164 = .ok (.invokestatic 163, 3) := by decide +kernel
theorem dX7_drawn_167 : decode cX7_drawn 167 = .ok (.iadd, 1) := by decide +kernel
theorem dX7_drawn_168 : decode cX7_drawn 168 = .ok (.istore 7, 2) := by decide +kernel
theorem dX7_drawn_170 : decode cX7_drawn 170 = .ok (.iinc 8 1, 3) := by decide +kernel
theorem dX7_drawn_173 : decode cX7_drawn 173 = .ok (.goto (-29), 3) := by decide +kernel
theorem dX7_drawn_176 : decode cX7_drawn 176 = .ok (.iload_n 3, 1) := by decide +kernel
theorem dX7_drawn_177 : decode cX7_drawn 177 = .ok (.ifCond .ne 8, 3) := by decide +kernel
theorem dX7_drawn_180 : decode cX7_drawn 180 = .ok (.iload 6, 2) := by decide +kernel
theorem dX7_drawn_182 : decode cX7_drawn 182 = .ok (.goto 5, 3) := by decide +kernel
theorem dX7_drawn_185 : decode cX7_drawn 185 = .ok (.iload 7, 2) := by decide +kernel
theorem dX7_drawn_187 : decode cX7_drawn 187 = .ok (.ireturn, 1) := by decide +kernel
theorem dX7_image_0 : decode cX7_image 0 = .ok (.aload_n 0, 1) := by decide +kernel
theorem dX7_image_1 : decode cX7_image 1 = .ok (.iconst 0, 1) := by decide +kernel
theorem dX7_image_2 : decode cX7_image 2 = .ok (.putfield 50, 3) := by decide +kernel
theorem dX7_image_5 : decode cX7_image 5 = .ok (.iload_n 1, 1) := by decide +kernel
theorem dX7_image_6 : decode cX7_image 6 = .ok (.i2l, 1) := by decide +kernel
theorem dX7_image_7 : decode cX7_image 7 = .ok (.lconst 0, 1) := by decide +kernel
theorem dX7_image_8 : decode cX7_image 8 = .ok (.lconst 1, 1) := by decide +kernel
theorem dX7_image_9 : decode cX7_image 9 = .ok (.invokestatic 60, 3) := by decide +kernel
theorem dX7_image_12 : decode cX7_image 12 = .ok (.ifCond .ne 6, 3) := by decide +kernel
theorem dX7_image_15 : decode cX7_image 15 = .ok (.ldc 70, 2) := by decide +kernel
theorem dX7_image_17 : decode cX7_image 17 = .ok (.ireturn, 1) := by decide +kernel
theorem dX7_image_18 : decode cX7_image 18 = .ok (.aload_n 0, 1) := by decide +kernel
theorem dX7_image_19 : decode cX7_image 19 = .ok (.invokevirtual 186, 3) := by decide +kernel
theorem dX7_image_22 : decode cX7_image 22 = .ok (.ifCond .ne 6, 3) := by decide +kernel
theorem dX7_image_25 : decode cX7_image 25 = .ok (.ldc 189, 2) := by decide +kernel
theorem dX7_image_27 : decode cX7_image 27 = .ok (.ireturn, 1) := by decide +kernel
theorem dX7_image_28 : decode cX7_image 28 = .ok (.iconst 0, 1) := by decide +kernel
theorem dX7_image_29 : decode cX7_image 29 = .ok (.istore_n 2, 1) := by decide +kernel
theorem dX7_image_30 : decode cX7_image 30 = .ok (.iload_n 2, 1) := by decide +kernel
theorem dX7_image_31 : decode cX7_image 31 = .ok (.bipush 50, 2) := by decide +kernel
theorem dX7_image_33 : decode cX7_image 33 = .ok (.if_icmp .ge 26, 3) := by decide +kernel
theorem dX7_image_36 : decode cX7_image 36 = .ok (.aload_n 0, 1) := by decide +kernel
theorem dX7_image_37 : decode cX7_image 37 = .ok (.getfield 44, 3) := by decide +kernel
theorem dX7_image_40 : decode cX7_image 40 = .ok (.bipush 50, 2) := by decide +kernel
theorem dX7_image_42 : decode cX7_image 42 = .ok (.iload_n 1, 1) := by decide +kernel
theorem dX7_image_43 : decode cX7_image 43 = .ok (.imul, 1) := by decide +kernel
theorem dX7_image_44 : decode cX7_image 44 = .ok (.iload_n 2, 1) := by decide +kernel
theorem dX7_image_45 : decode cX7_image 45 = .ok (.iadd, 1) := by decide +kernel
theorem dX7_image_46 : decode cX7_image 46 = .ok (.aload_n 0, 1) := by decide +kernel
theorem dX7_image_47 : decode cX7_image 47 = .ok (.getfield 19, 3) := by decide +kernel
theorem dX7_image_50 : decode cX7_image 50 = .ok (.iload_n 2, 1) := by decide +kernel
theorem dX7_image_51 : decode cX7_image 51 = .ok (.iaload, 1) := by decide +kernel
theorem dX7_image_52 : decode cX7_image 52 = .ok (.iastore, 1) := by decide +kernel
theorem dX7_image_53 : decode cX7_image 53 = .ok (.iinc 2 1, 3) := by decide +kernel
theorem dX7_image_56 : decode cX7_image 56 = .ok (.goto (-26), 3) := by decide +kernel
theorem dX7_image_59 : decode cX7_image 59 = .ok (.aload_n 0, 1) := by decide +kernel
theorem dX7_image_60 : decode cX7_image 60 = .ok (.getfield 40, 3) := by decide +kernel
theorem dX7_image_63 : decode cX7_image 63 = .ok (.iload_n 1, 1) := by decide +kernel
theorem dX7_image_64 : decode cX7_image 64 = .ok (.iconst 1, 1) := by decide +kernel
theorem dX7_image_65 : decode cX7_image 65 = .ok (.bastore, 1) := by decide +kernel
theorem dX7_image_66 : decode cX7_image 66 = .ok (.iconst 1, 1) := by decide +kernel
theorem dX7_image_67 : decode cX7_image 67 = .ok (.ireturn, 1) := by decide +kernel
theorem dX7_restore_0 : decode cX7_restore 0 = .ok (.aload_n 0, 1) := by decide +kernel
theorem dX7_restore_1 : decode cX7_restore 1 = .ok (.iconst 0, 1) := by decide +kernel
theorem dX7_restore_2 : decode cX7_restore 2 = .ok (.putfield 50, 3) := by decide +kernel
theorem dX7_restore_5 : decode cX7_restore 5 = .ok (.iload_n 1, 1) := by decide +kernel
theorem dX7_restore_6 : decode cX7_restore 6 = .ok (.i2l, 1) := by decide +kernel
theorem dX7_restore_7 : decode cX7_restore 7 = .ok (.lconst 0, 1) := by decide +kernel
theorem dX7_restore_8 : decode cX7_restore 8 = .ok (.lconst 1, 1) := by decide +kernel
theorem dX7_restore_9 : decode cX7_restore 9 = .ok (.invokestatic 60, 3) := by decide +kernel
theorem dX7_restore_12 : decode cX7_restore 12 = .ok (.ifCond .ne 6, 3) := by decide +kernel
theorem dX7_restore_15 : decode cX7_restore 15 = .ok (.ldc 70, 2) := by decide +kernel
theorem dX7_restore_17 : decode cX7_restore 17 = .ok (.ireturn, 1) := by decide +kernel
theorem dX7_restore_18 : decode cX7_restore 18 = .ok (.aload_n 0, 1) := by decide +kernel
theorem dX7_restore_19 : decode cX7_restore 19 = .ok (.getfield 40, 3) := by decide +kernel
theorem dX7_restore_22 : decode cX7_restore 22 = .ok (.iload_n 1, 1) := by decide +kernel
theorem dX7_restore_23 : decode cX7_restore 23 = .ok (.baload, 1) := by decide +kernel
theorem dX7_restore_24 : decode cX7_restore 24 = .ok (.ifCond .ne 6, 3) := by decide +kernel
theorem dX7_restore_27 : decode cX7_restore 27 = .ok (.ldc 189, 2) := by decide +kernel
theorem dX7_restore_29 : decode cX7_restore 29 = .ok (.ireturn, 1) := by decide +kernel
theorem dX7_restore_30 : decode cX7_restore 30 = .ok (.iconst 0, 1) := by decide +kernel
theorem dX7_restore_31 : decode cX7_restore 31 = .ok (.istore_n 2, 1) := by decide +kernel
theorem dX7_restore_32 : decode cX7_restore 32 = .ok (.iload_n 2, 1) := by decide +kernel
theorem dX7_restore_33 : decode cX7_restore 33 = .ok (.bipush 50, 2) := by decide +kernel
theorem dX7_restore_35 : decode cX7_restore 35 = .ok (.if_icmp .ge 26, 3) := by decide +kernel
theorem dX7_restore_38 : decode cX7_restore 38 = .ok (.aload_n 0, 1) := by decide +kernel
theorem dX7_restore_39 : decode cX7_restore 39 = .ok (.getfield 19, 3) := by decide +kernel
theorem dX7_restore_42 : decode cX7_restore 42 = .ok (.iload_n 2, 1) := by decide +kernel
theorem dX7_restore_43 : decode cX7_restore 43 = .ok (.aload_n 0, 1) := by decide +kernel
theorem dX7_restore_44 : decode cX7_restore 44 = .ok (.getfield 44, 3) := by decide +kernel
theorem dX7_restore_47 : decode cX7_restore 47 = .ok (.bipush 50, 2) := by decide +kernel
theorem dX7_restore_49 : decode cX7_restore 49 = .ok (.iload_n 1, 1) := by decide +kernel
theorem dX7_restore_50 : decode cX7_restore 50 = .ok (.imul, 1) := by decide +kernel
theorem dX7_restore_51 : decode cX7_restore 51 = .ok (.iload_n 2, 1) := by decide +kernel
theorem dX7_restore_52 : decode cX7_restore 52 = .ok (.iadd, 1) := by decide +kernel
theorem dX7_restore_53 : decode cX7_restore 53 = .ok (.iaload, 1) := by decide +kernel
theorem dX7_restore_54 : decode cX7_restore 54 = .ok (.iastore, 1) := by decide +kernel
theorem dX7_restore_55 : decode cX7_restore 55 = .ok (.iinc 2 1, 3) := by decide +kernel
theorem dX7_restore_58 : decode cX7_restore 58 = .ok (.goto (-26), 3) := by decide +kernel
theorem dX7_restore_61 : decode cX7_restore 61 = .ok (.aload_n 0, 1) := by decide +kernel
theorem dX7_restore_62 : decode cX7_restore 62 = .ok (.iconst 0, 1) := by decide +kernel
theorem dX7_restore_63 : decode cX7_restore 63 = .ok (.putfield 149, 3) := by decide +kernel
theorem dX7_restore_66 : decode cX7_restore 66 = .ok (.iconst 1, 1) := by decide +kernel
theorem dX7_restore_67 : decode cX7_restore 67 = .ok (.ireturn, 1) := by decide +kernel
theorem dX7_isOf_0 : decode cX7_isOf 0 = .ok (.iload_n 1, 1) := by decide +kernel
theorem dX7_isOf_1 : decode cX7_isOf 1 = .ok (.ifCond .eq 28, 3) := by decide +kernel
theorem dX7_isOf_4 : decode cX7_isOf 4 = .ok (.iload_n 0, 1) := by decide +kernel
theorem dX7_isOf_5 : decode cX7_isOf 5 = .ok (.iload_n 1, 1) := by decide +kernel
theorem dX7_isOf_6 : decode cX7_isOf 6 = .ok (.if_icmp .eq 23, 3) := by decide +kernel
theorem dX7_isOf_9 : decode cX7_isOf 9 = .ok (.iload_n 1, 1) := by decide +kernel
theorem dX7_isOf_10 : decode cX7_isOf 10 = .ok (.iconst 1, 1) := by decide +kernel
theorem dX7_isOf_11 : decode cX7_isOf 11 = .ok (.if_icmp .ne 8, 3) := by decide +kernel
theorem dX7_isOf_14 : decode cX7_isOf 14 = .ok (.iload_n 0, 1) := by decide +kernel
theorem dX7_isOf_15 : decode cX7_isOf 15 = .ok (.iconst 4, 1) := by decide +kernel
theorem dX7_isOf_16 : decode cX7_isOf 16 = .ok (.if_icmp .lt 13, 3) := by decide +kernel
theorem dX7_isOf_19 : decode cX7_isOf 19 = .ok (.iload_n 1, 1) := by decide +kernel
theorem dX7_isOf_20 : decode cX7_isOf 20 = .ok (.iconst 4, 1) := by decide +kernel
theorem dX7_isOf_21 : decode cX7_isOf 21 = .ok (.if_icmp .ne 12, 3) := by decide +kernel
theorem dX7_isOf_24 : decode cX7_isOf 24 = .ok (.iload_n 0, 1) := by decide +kernel
theorem dX7_isOf_25 : decode cX7_isOf 25 = .ok (.iconst 5, 1) := by decide +kernel
theorem dX7_isOf_26 : decode cX7_isOf 26 = .ok (.if_icmp .ne 7, 3) := by decide +kernel
theorem dX7_isOf_29 : decode cX7_isOf 29 = .ok (.iconst 1, 1) := by decide +kernel
theorem dX7_isOf_30 : decode cX7_isOf 30 = .ok (.goto 4, 3) := by decide +kernel
theorem dX7_isOf_33 : decode cX7_isOf 33 = .ok (.iconst 0, 1) := by decide +kernel
theorem dX7_isOf_34 : decode cX7_isOf 34 = .ok (.ireturn, 1) := by decide +kernel
theorem dX7_kind_0 : decode cX7_kind 0 = .ok (.aload_n 0, 1) := by decide +kernel
theorem dX7_kind_1 : decode cX7_kind 1 = .ok (.iconst 0, 1) := by decide +kernel
theorem dX7_kind_2 : decode cX7_kind 2 = .ok (.putfield 50, 3) := by decide +kernel
theorem dX7_kind_5 : decode cX7_kind 5 = .ok (.aload_n 0, 1) := by decide +kernel
theorem dX7_kind_6 : decode cX7_kind 6 = .ok (.iload_n 1, 1) := by decide +kernel
theorem dX7_kind_7 : decode cX7_kind 7 = .ok (.invokevirtual 199, 3) := by decide +kernel
theorem dX7_kind_10 : decode cX7_kind 10 = .ok (.ifCond .eq 15, 3) := by decide +kernel
theorem dX7_kind_13 : decode cX7_kind 13 = .ok (.aload_n 0, 1) := by decide +kernel
theorem dX7_kind_14 : decode cX7_kind 14 = .ok (.getfield 19, 3) := by decide +kernel
theorem dX7_kind_17 : decode cX7_kind 17 = .ok (.iload_n 1, 1) := by decide +kernel
theorem dX7_kind_18 : decode cX7_kind 18 = .ok (.iconst 0, 1) := by decide +kernel
theorem dX7_kind_19 : decode cX7_kind 19 = .ok (.invokestatic 163, 3) := by decide +kernel
theorem dX7_kind_22 : decode cX7_kind 22 = .ok (.goto 5, 3) := by decide +kernel
theorem dX7_kind_25 : decode cX7_kind 25 = .ok (.ldc 70, 2) := by decide +kernel
theorem dX7_kind_27 : decode cX7_kind 27 = .ok (.ireturn, 1) := by decide +kernel
theorem dX7_as_0 : decode cX7_as 0 = .ok (.aload_n 0, 1) := by decide +kernel
theorem dX7_as_1 : decode cX7_as 1 = .ok (.iconst 0, 1) := by decide +kernel
theorem dX7_as_2 : decode cX7_as 2 = .ok (.putfield 50, 3) := by decide +kernel
theorem dX7_as_5 : decode cX7_as 5 = .ok (.aload_n 0, 1) := by decide +kernel
theorem dX7_as_6 : decode cX7_as 6 = .ok (.iload_n 1, 1) := by decide +kernel
theorem dX7_as_7 : decode cX7_as 7 = .ok (.invokevirtual 199, 3) := by decide +kernel
theorem dX7_as_10 : decode cX7_as 10 = .ok (.ifCond .eq 15, 3) := by decide +kernel
theorem dX7_as_13 : decode cX7_as 13 = .ok (.iload_n 2, 1) := by decide +kernel
theorem dX7_as_14 : decode cX7_as 14 = .ok (.i2l, 1) := by decide +kernel
theorem dX7_as_15 : decode cX7_as 15 = .ok (.lconst 0, 1) := by decide +kernel
theorem dX7_as_16 : decode cX7_as 16 = .ok (.ldc2_w 236, 3) := by decide +kernel
theorem dX7_as_19 : decode cX7_as 19 = .ok (.invokestatic 60, 3) := by decide +kernel
theorem dX7_as_22 : decode cX7_as 22 = .ok (.ifCond .ne 6, 3) := by decide +kernel
theorem dX7_as_25 : decode cX7_as 25 = .ok (.ldc 70, 2) := by decide +kernel
theorem dX7_as_27 : decode cX7_as 27 = .ok (.ireturn, 1) := by decide +kernel
theorem dX7_as_28 : decode cX7_as 28 = .ok (.aload_n 0, 1) := by decide +kernel
theorem dX7_as_29 : decode cX7_as 29 = .ok (.iconst 0, 1) := by decide +kernel
theorem dX7_as_30 : decode cX7_as 30 = .ok (.putfield 54, 3) := by decide +kernel
theorem dX7_as_33 : decode cX7_as 33 = .ok (.aload_n 0, 1) := by decide +kernel
theorem dX7_as_34 : decode cX7_as 34 = .ok (.getfield 19, 3) := by decide +kernel
theorem dX7_as_37 : decode cX7_as 37 = .ok (.iload_n 1, 1) := by decide +kernel
theorem dX7_as_38 : decode cX7_as 38 = .ok (.iconst 0, 1) := by decide +kernel
theorem dX7_as_39 : decode cX7_as 39 = .ok (.invokestatic 163, 3) := by decide +kernel
theorem dX7_as_42 : decode cX7_as 42 = .ok (.iload_n 2, 1) := by decide +kernel
theorem dX7_as_43 : decode cX7_as 43 = .ok (.invokestatic 238, 3) := by decide +kernel
theorem dX7_as_46 : decode cX7_as 46 = .ok (.ifCond .eq 7, 3) := by decide +kernel
theorem dX7_as_49 : decode cX7_as 49 = .ok (.iload_n 1, 1) := by decide +kernel
theorem dX7_as_50 : decode cX7_as 50 = .ok (.goto 8, 3) := by decide +kernel
theorem dX7_as_53 : decode cX7_as 53 = .ok (.aload_n 0, 1) := by decide +kernel
theorem dX7_as_54 : decode cX7_as 54 = .ok (.iconst 3, 1) := by decide +kernel
theorem dX7_as_55 : decode cX7_as 55 = .ok (.invokevirtual 71, 3) := by decide +kernel
theorem dX7_as_58 : decode cX7_as 58 = .ok (.ireturn, 1) := by decide +kernel
theorem dX7_began_0 : decode cX7_began 0 = .ok (.aload_n 0, 1) := by decide +kernel
theorem dX7_began_1 : decode cX7_began 1 = .ok (.getfield 241, 3) := by decide +kernel
theorem dX7_began_4 : decode cX7_began 4 = .ok (.bipush 16, 2) := by decide +kernel
theorem dX7_began_6 : decode cX7_began 6 = .ok (.if_icmp .ge 23, 3) := by decide +kernel
theorem dX7_began_9 : decode cX7_began 9 = .ok (.aload_n 0, 1) := by decide +kernel
theorem dX7_began_10 : decode cX7_began 10 = .ok (.getfield 47, 3) := by decide +kernel
theorem dX7_began_13 : decode cX7_began 13 = .ok (.aload_n 0, 1) := by decide +kernel
theorem dX7_began_14 : decode cX7_began 14 = .ok (.getfield 241, 3) := by decide +kernel
theorem dX7_began_17 : decode cX7_began 17 = .ok (.iload_n 1, 1) := by decide +kernel
theorem dX7_began_18 : decode cX7_began 18 = .ok (.iastore, 1) := by decide +kernel
theorem dX7_began_19 : decode cX7_began 19 = .ok (.aload_n 0, 1) := by decide +kernel
theorem dX7_began_20 : decode cX7_began 20 = .ok (.dup, 1) := by decide +kernel
theorem dX7_began_21 : decode cX7_began 21 = .ok (.getfield 241, 3) := by decide +kernel
theorem dX7_began_24 : decode cX7_began 24 = .ok (.iconst 1, 1) := by decide +kernel
theorem dX7_began_25 : decode cX7_began 25 = .ok (.iadd, 1) := by decide +kernel
theorem dX7_began_26 : decode cX7_began 26 = .ok (.putfield 241, 3) := by decide +kernel
theorem dX7_began_29 : decode cX7_began 29 = .ok (.return_, 1) := by decide +kernel
theorem dX7_plainSize_0 : decode cX7_plainSize 0 = .ok (.aload_n 0, 1) := by decide +kernel
theorem dX7_plainSize_1 : decode cX7_plainSize 1 = .ok (.bipush 10, 2) := by decide +kernel
theorem dX7_plainSize_3 : decode cX7_plainSize 3 = .ok (.invokevirtual 244, 3) := by decide +kernel
theorem dX7_plainSize_6 : decode cX7_plainSize 6 = .ok (.aload_n 0, 1) := by decide +kernel
theorem dX7_plainSize_7 : decode cX7_plainSize 7 = .ok (.getfield 19, 3) := by decide +kernel
theorem dX7_plainSize_10 : decode cX7_plainSize 10 = .ok (.iload_n 1, 1) := by decide +kernel
theorem dX7_plainSize_11 : decode cX7_plainSize 11 = .ok (.iconst 3, 1) := by decide +kernel
theorem dX7_plainSize_12 : decode cX7_plainSize 12 = .ok (.invokestatic 163, 3) := by decide +kernel
theorem dX7_plainSize_15 : decode cX7_plainSize 15 = .ok (.ireturn, 1) := by decide +kernel
theorem dX7_boreSize_0 : decode cX7_boreSize 0 = .ok (.aload_n 0, 1) := by decide +kernel
theorem dX7_boreSize_1 : decode cX7_boreSize 1 = .ok (.getfield 19, 3) := by decide +kernel
theorem dX7_boreSize_4 : decode cX7_boreSize 4 = .ok (.iload_n 1, 1) := by decide +kernel
theorem dX7_boreSize_5 : decode cX7_boreSize 5 = .ok (.iconst 0, 1) := by decide +kernel
theorem dX7_boreSize_6 : decode cX7_boreSize 6 = .ok (.invokestatic 163, 3) := by decide +kernel
theorem dX7_boreSize_9 : decode cX7_boreSize 9 = .ok (.iconst 5, 1) := by decide +kernel
theorem dX7_boreSize_10 : decode cX7_boreSize 10 = .ok (.if_icmp .ne 7, 3) := by decide +kernel
theorem dX7_boreSize_13 : decode cX7_boreSize 13 = .ok (.iconst 1, 1) := by decide +kernel
theorem dX7_boreSize_14 : decode cX7_boreSize 14 = .ok (.goto 4, 3) := by decide +kernel
theorem dX7_boreSize_17 : decode cX7_boreSize 17 = .ok (.iconst 0, 1) := by decide +kernel
theorem dX7_boreSize_18 : decode cX7_boreSize 18 = .ok (.istore_n 2, 1) := by decide +kernel
theorem dX7_boreSize_19 : decode cX7_boreSize 19 = .ok (.iload_n 2, 1) := by decide +kernel
theorem dX7_boreSize_20 : decode cX7_boreSize 20 = .ok (.ifCond .eq 9, 3) := by decide +kernel
theorem dX7_boreSize_23 : decode cX7_boreSize 23 = .ok (.aload_n 0, 1) := by decide +kernel
theorem dX7_boreSize_24 : decode cX7_boreSize 24 = .ok (.bipush 14, 2) := by decide +kernel
theorem dX7_boreSize_26 : decode cX7_boreSize 26 = .ok (.invokevirtual 244, 3) := by decide +kernel
theorem dX7_boreSize_29 : decode cX7_boreSize 29 = .ok (.aload_n 0, 1) := by decide +kernel
theorem dX7_boreSize_30 : decode cX7_boreSize 30 = .ok (.bipush 13, 2) := by decide +kernel
theorem dX7_boreSize_32 : decode cX7_boreSize 32 = .ok (.invokevirtual 244, 3) := by decide +kernel
theorem dX7_boreSize_35 : decode cX7_boreSize 35 = .ok (.aload_n 0, 1) := by decide +kernel
theorem dX7_boreSize_36 : decode cX7_boreSize 36 = .ok (.iload_n 1, 1) := by decide +kernel
theorem dX7_boreSize_37 : decode cX7_boreSize 37 = .ok (.invokevirtual 247, 3) := by decide +kernel
theorem dX7_boreSize_40 : decode cX7_boreSize 40 = .ok (.bipush 100, 2) := by decide +kernel
theorem dX7_boreSize_42 : decode cX7_boreSize 42 = .ok (.isub, 1) := by decide +kernel
theorem dX7_boreSize_43 : decode cX7_boreSize 43 = .ok (.istore_n 3, 1) := by decide +kernel
theorem dX7_boreSize_44 : decode cX7_boreSize 44 = .ok (.iload_n 2, 1) := by decide +kernel
theorem dX7_boreSize_45 : decode cX7_boreSize 45 = .ok (.ifCond .eq 9, 3) := by decide +kernel
theorem dX7_boreSize_48 : decode cX7_boreSize 48 = .ok (.iconst 2, 1) := by decide +kernel
theorem dX7_boreSize_49 : decode cX7_boreSize 49 = .ok (.iload_n 3, 1) := by decide +kernel
theorem dX7_boreSize_50 : decode cX7_boreSize 50 = .ok (.imul, 1) := by decide +kernel
theorem dX7_boreSize_51 : decode cX7_boreSize 51 = .ok (.goto 4, 3) := by decide +kernel
theorem dX7_boreSize_54 : decode cX7_boreSize 54 = .ok (.iload_n 3, 1) := by decide +kernel
theorem dX7_boreSize_55 : decode cX7_boreSize 55 = .ok (.ireturn, 1) := by decide +kernel
theorem dX7_markOf_0 : decode cX7_markOf 0 = .ok (.aload_n 0, 1) := by decide +kernel
theorem dX7_markOf_1 : decode cX7_markOf 1 = .ok (.getfield 19, 3) := by decide +kernel
theorem dX7_markOf_4 : decode cX7_markOf 4 = .ok (.iload_n 1, 1) := by decide +kernel
theorem dX7_markOf_5 : decode cX7_markOf 5 = .ok (.iconst 0, 1) := by decide +kernel
theorem dX7_markOf_6 : decode cX7_markOf 6 = .ok (.invokestatic 163, 3) := by decide +kernel
theorem dX7_markOf_9 : decode cX7_markOf 9 = .ok (.istore_n 2, 1) := by decide +kernel
theorem dX7_markOf_10 : decode cX7_markOf 10 = .ok (.iload_n 2, 1) := by decide +kernel
theorem dX7_markOf_11 : decode cX7_markOf 11 = .ok (.iconst 4, 1) := by decide +kernel
theorem dX7_markOf_12 : decode cX7_markOf 12 = .ok (.if_icmp .lt 23, 3) := by decide +kernel
theorem dX7_markOf_15 : decode cX7_markOf 15 = .ok (.aload_n 0, 1) := by decide +kernel
theorem dX7_markOf_16 : decode cX7_markOf 16 = .ok (.bipush 23, 2) := by decide +kernel
theorem dX7_markOf_18 : decode cX7_markOf 18 = .ok (.invokevirtual 244, 3) := by decide +kernel
theorem dX7_markOf_21 : decode cX7_markOf 21 = .ok (.aload_n 0, 1) := by decide +kernel
theorem dX7_markOf_22 : decode cX7_markOf 22 = .ok (.bipush 20, 2) := by decide +kernel
theorem dX7_markOf_24 : decode cX7_markOf 24 = .ok (.invokevirtual 244, 3) := by decide +kernel
theorem dX7_markOf_27 : decode cX7_markOf 27 = .ok (.iload_n 1, 1) := by decide +kernel
theorem dX7_markOf_28 : decode cX7_markOf 28 = .ok (.aload_n 0, 1) := by decide +kernel
theorem dX7_markOf_29 : decode cX7_markOf 29 = .ok (.iload_n 1, 1) := by decide +kernel
theorem dX7_markOf_30 : decode cX7_markOf 30 = .ok (.invokevirtual 250, 3) := by decide +kernel
theorem dX7_markOf_33 : decode cX7_markOf 33 = .ok (.isub, 1) := by decide +kernel
theorem dX7_markOf_34 : decode cX7_markOf 34 = .ok (.ireturn, 1) := by decide +kernel
theorem dX7_markOf_35 : decode cX7_markOf 35 = .ok (.iload_n 2, 1) := by decide +kernel
theorem dX7_markOf_36 : decode cX7_markOf 36 = .ok (.iconst 1, 1) := by decide +kernel
theorem dX7_markOf_37 : decode cX7_markOf 37 = .ok (.if_icmp .eq 19, 3) := by decide +kernel
theorem dX7_markOf_40 : decode cX7_markOf 40 = .ok (.aload_n 0, 1) := by decide +kernel
theorem dX7_markOf_41 : decode cX7_markOf 41 = .ok (.iload_n 2, 1) := by decide +kernel
theorem dX7_markOf_42 : decode cX7_markOf 42 = .ok (.iconst 3, 1) := by decide +kernel
theorem dX7_markOf_43 : decode cX7_markOf 43 = .ok (.if_icmp .ne 8, 3) := by decide +kernel
theorem dX7_markOf_46 : decode cX7_markOf 46 = .ok (.bipush 22, 2) := by decide +kernel
theorem dX7_markOf_48 : decode cX7_markOf 48 = .ok (.goto 5, 3) := by decide +kernel
theorem dX7_markOf_51 : decode cX7_markOf 51 = .ok (.bipush 24, 2) := by decide +kernel
theorem dX7_markOf_53 : decode cX7_markOf 53 = .ok (.invokevirtual 244, 3) := by decide +kernel
theorem dX7_markOf_56 : decode cX7_markOf 56 = .ok (.aload_n 0, 1) := by decide +kernel
theorem dX7_markOf_57 : decode cX7_markOf 57 = .ok (.bipush 21, 2) := by decide +kernel
theorem dX7_markOf_59 : decode cX7_markOf 59 = .ok (.invokevirtual 244, 3) := by decide +kernel
theorem dX7_markOf_62 : decode cX7_markOf 62 = .ok (.aload_n 0, 1) := by decide +kernel
theorem dX7_markOf_63 : decode cX7_markOf 63 = .ok (.bipush 20, 2) := by decide +kernel
theorem dX7_markOf_65 : decode cX7_markOf 65 = .ok (.invokevirtual 244, 3) := by decide +kernel
theorem dX7_markOf_68 : decode cX7_markOf 68 = .ok (.iload_n 1, 1) := by decide +kernel
theorem dX7_markOf_69 : decode cX7_markOf 69 = .ok (.aload_n 0, 1) := by decide +kernel
theorem dX7_markOf_70 : decode cX7_markOf 70 = .ok (.getfield 19, 3) := by decide +kernel
theorem dX7_markOf_73 : decode cX7_markOf 73 = .ok (.iload_n 1, 1) := by decide +kernel
theorem dX7_markOf_74 : decode cX7_markOf 74 = .ok (.iconst 1, 1) := by decide +kernel
theorem dX7_markOf_75 : decode cX7_markOf 75 = .ok (.invokestatic 163, 3) := by decide +kernel
theorem dX7_markOf_78 : decode cX7_markOf 78 = .ok (.iadd, 1) := by decide +kernel
theorem dX7_markOf_79 : decode cX7_markOf 79 = .ok (.istore_n 3, 1) := by decide +kernel
theorem dX7_markOf_80 : decode cX7_markOf 80 = .ok (.iload_n 2, 1) := by decide +kernel
theorem dX7_markOf_81 : decode cX7_markOf 81 = .ok (.iconst 1, 1) := by decide +kernel
theorem dX7_markOf_82 : decode cX7_markOf 82 = .ok (.if_icmp .ne 7, 3) := by decide +kernel
theorem dX7_markOf_85 : decode cX7_markOf 85 = .ok (.iload_n 3, 1) := by decide +kernel
theorem dX7_markOf_86 : decode cX7_markOf 86 = .ok (.goto 19, 3) := by decide +kernel
theorem dX7_markOf_89 : decode cX7_markOf 89 = .ok (.iload_n 2, 1) := by decide +kernel
theorem dX7_markOf_90 : decode cX7_markOf 90 = .ok (.iconst 3, 1) := by decide +kernel
theorem dX7_markOf_91 : decode cX7_markOf 91 = .ok (.if_icmp .ne 11, 3) := by decide +kernel
theorem dX7_markOf_94 : decode cX7_markOf 94 = .ok (.iload_n 3, 1) := by decide +kernel
theorem dX7_markOf_95 : decode cX7_markOf 95 = .ok (.sipush 1000, 3) := by decide +kernel
theorem dX7_markOf_98 : decode cX7_markOf 98 = .ok (.isub, 1) := by decide +kernel
theorem dX7_markOf_99 : decode cX7_markOf 99 = .ok (.goto 6, 3) := by decide +kernel
theorem dX7_markOf_102 : decode cX7_markOf 102 = .ok (.iconst 2, 1) := by decide +kernel
theorem dX7_markOf_103 : decode cX7_markOf 103 = .ok (.iload_n 3, 1) := by decide +kernel
theorem dX7_markOf_104 : decode cX7_markOf 104 = .ok (.imul, 1) := by decide +kernel
theorem dX7_markOf_105 : decode cX7_markOf 105 = .ok (.ireturn, 1) := by decide +kernel
theorem dX7_sizeOf_0 : decode cX7_sizeOf 0 = .ok (.aload_n 0, 1) := by decide +kernel
theorem dX7_sizeOf_1 : decode cX7_sizeOf 1 = .ok (.getfield 19, 3) := by decide +kernel
theorem dX7_sizeOf_4 : decode cX7_sizeOf 4 = .ok (.iload_n 1, 1) := by decide +kernel
theorem dX7_sizeOf_5 : decode cX7_sizeOf 5 = .ok (.iconst 0, 1) := by decide +kernel
theorem dX7_sizeOf_6 : decode cX7_sizeOf 6 = .ok (.invokestatic 163, 3) := by decide +kernel
theorem dX7_sizeOf_9 : decode cX7_sizeOf 9 = .ok (.istore_n 2, 1) := by decide +kernel
theorem dX7_sizeOf_10 : decode cX7_sizeOf 10 = .ok (.iload_n 2, 1) := by decide +kernel
theorem dX7_sizeOf_11 : decode cX7_sizeOf 11 = .ok (.iconst 4, 1) := by decide +kernel
theorem dX7_sizeOf_12 : decode cX7_sizeOf 12 = .ok (.if_icmp .lt 9, 3) := by decide +kernel
theorem dX7_sizeOf_15 : decode cX7_sizeOf 15 = .ok (.aload_n 0, 1) := by decide +kernel
theorem dX7_sizeOf_16 : decode cX7_sizeOf 16 = .ok (.iload_n 1, 1) := by decide +kernel
theorem dX7_sizeOf_17 : decode cX7_sizeOf 17 = .ok (.invokevirtual 250, 3) := by decide +kernel
theorem dX7_sizeOf_20 : decode cX7_sizeOf 20 = .ok (.ireturn, 1) := by decide +kernel
theorem dX7_sizeOf_21 : decode cX7_sizeOf 21 = .ok (.iload_n 2, 1) := by decide +kernel
theorem dX7_sizeOf_22 : decode cX7_sizeOf 22 = .ok (.iconst 2, 1) := by decide +kernel
theorem dX7_sizeOf_23 : decode cX7_sizeOf 23 = .ok (.if_icmp .ne 9, 3) := by decide +kernel
theorem dX7_sizeOf_26 : decode cX7_sizeOf 26 = .ok (.aload_n 0, 1) := by decide +kernel
theorem dX7_sizeOf_27 : decode cX7_sizeOf 27 = .ok (.bipush 12, 2) := by decide +kernel
theorem dX7_sizeOf_29 : decode cX7_sizeOf 29 = .ok (.invokevirtual 244, 3) := by decide +kernel
theorem dX7_sizeOf_32 : decode cX7_sizeOf 32 = .ok (.aload_n 0, 1) := by decide +kernel
theorem dX7_sizeOf_33 : decode cX7_sizeOf 33 = .ok (.bipush 11, 2) := by decide +kernel
theorem dX7_sizeOf_35 : decode cX7_sizeOf 35 = .ok (.invokevirtual 244, 3) := by decide +kernel
theorem dX7_sizeOf_38 : decode cX7_sizeOf 38 = .ok (.aload_n 0, 1) := by decide +kernel
theorem dX7_sizeOf_39 : decode cX7_sizeOf 39 = .ok (.iload_n 1, 1) := by decide +kernel
theorem dX7_sizeOf_40 : decode cX7_sizeOf 40 = .ok (.invokevirtual 247, 3) := by decide +kernel
theorem dX7_sizeOf_43 : decode cX7_sizeOf 43 = .ok (.istore_n 3, 1) := by decide +kernel
theorem dX7_sizeOf_44 : decode cX7_sizeOf 44 = .ok (.iload_n 3, 1) := by decide +kernel
theorem dX7_sizeOf_45 : decode cX7_sizeOf 45 = .ok (.aload_n 0, 1) := by decide +kernel
theorem dX7_sizeOf_46 : decode cX7_sizeOf 46 = .ok (.iload_n 1, 1) := by decide +kernel
theorem dX7_sizeOf_47 : decode cX7_sizeOf 47 = .ok (.invokevirtual 253, 3) := by decide +kernel
theorem dX7_sizeOf_50 : decode cX7_sizeOf 50 = .ok (.iadd, 1) := by decide +kernel
theorem dX7_sizeOf_51 : decode cX7_sizeOf 51 = .ok (.istore_n 3, 1) := by decide +kernel
theorem dX7_sizeOf_52 : decode cX7_sizeOf 52 = .ok (.iload_n 2, 1) := by decide +kernel
theorem dX7_sizeOf_53 : decode cX7_sizeOf 53 = .ok (.iconst 2, 1) := by decide +kernel
theorem dX7_sizeOf_54 : decode cX7_sizeOf 54 = .ok (.if_icmp .ne 8, 3) := by decide +kernel
theorem dX7_sizeOf_57 : decode cX7_sizeOf 57 = .ok (.iload_n 3, 1) := by decide +kernel
theorem dX7_sizeOf_58 : decode cX7_sizeOf 58 = .ok (.ineg, 1) := by decide +kernel
theorem dX7_sizeOf_59 : decode cX7_sizeOf 59 = .ok (.goto 4, 3) := by decide +kernel
theorem dX7_sizeOf_62 : decode cX7_sizeOf 62 = .ok (.iload_n 3, 1) := by decide +kernel
theorem dX7_sizeOf_63 : decode cX7_sizeOf 63 = .ok (.ireturn, 1) := by decide +kernel
theorem dX7_ask_0 : decode cX7_ask 0 = .ok (.aload_n 0, 1) := by decide +kernel
theorem dX7_ask_1 : decode cX7_ask 1 = .ok (.iconst 0, 1) := by decide +kernel
theorem dX7_ask_2 : decode cX7_ask 2 = .ok (.putfield 50, 3) := by decide +kernel
theorem dX7_ask_5 : decode cX7_ask 5 = .ok (.aload_n 0, 1) := by decide +kernel
theorem dX7_ask_6 : decode cX7_ask 6 = .ok (.iload_n 1, 1) := by decide +kernel
theorem dX7_ask_7 : decode cX7_ask 7 = .ok (.invokevirtual 199, 3) := by decide +kernel
theorem dX7_ask_10 : decode cX7_ask 10 = .ok (.ifCond .eq 13, 3) := by decide +kernel
theorem dX7_ask_13 : decode cX7_ask 13 = .ok (.iload_n 2, 1) := by decide +kernel
theorem dX7_ask_14 : decode cX7_ask 14 = .ok (.i2l, 1) := by decide +kernel
theorem dX7_ask_15 : decode cX7_ask 15 = .ok (.lconst 0, 1) := by decide +kernel
theorem dX7_ask_16 : decode cX7_ask 16 = .ok (.lconst 1, 1) := by decide +kernel
theorem dX7_ask_17 : decode cX7_ask 17 = .ok (.invokestatic 60, 3) := by decide +kernel
theorem dX7_ask_20 : decode cX7_ask 20 = .ok (.ifCond .ne 6, 3) := by decide +kernel
theorem dX7_ask_23 : decode cX7_ask 23 = .ok (.ldc 70, 2) := by decide +kernel
theorem dX7_ask_25 : decode cX7_ask 25 = .ok (.ireturn, 1) := by decide +kernel
theorem dX7_ask_26 : decode cX7_ask 26 = .ok (.aload_n 0, 1) := by decide +kernel
theorem dX7_ask_27 : decode cX7_ask 27 = .ok (.iconst 0, 1) := by decide +kernel
theorem dX7_ask_28 : decode cX7_ask 28 = .ok (.putfield 241, 3) := by decide +kernel
theorem dX7_ask_31 : decode cX7_ask 31 = .ok (.iload_n 2, 1) := by decide +kernel
theorem dX7_ask_32 : decode cX7_ask 32 = .ok (.ifCond .ne 11, 3) := by decide +kernel
theorem dX7_ask_35 : decode cX7_ask 35 = .ok (.aload_n 0, 1) := by decide +kernel
theorem dX7_ask_36 : decode cX7_ask 36 = .ok (.iload_n 1, 1) := by decide +kernel
theorem dX7_ask_37 : decode cX7_ask 37 = .ok (.invokevirtual 256, 3) := by decide +kernel
theorem dX7_ask_40 : decode cX7_ask 40 = .ok (.goto 8, 3) := by decide +kernel
theorem dX7_ask_43 : decode cX7_ask 43 = .ok (.aload_n 0, 1) := by decide +kernel
theorem dX7_ask_44 : decode cX7_ask 44 = .ok (.iload_n 1, 1) := by decide +kernel
theorem dX7_ask_45 : decode cX7_ask 45 = .ok (.invokevirtual 253, 3) := by decide +kernel
theorem dX7_ask_48 : decode cX7_ask 48 = .ok (.ireturn, 1) := by decide +kernel
theorem dX7_trace_0 : decode cX7_trace 0 = .ok (.aload_n 0, 1) := by decide +kernel
theorem dX7_trace_1 : decode cX7_trace 1 = .ok (.iconst 0, 1) := by decide +kernel
theorem dX7_trace_2 : decode cX7_trace 2 = .ok (.putfield 50, 3) := by decide +kernel
theorem dX7_trace_5 : decode cX7_trace 5 = .ok (.iload_n 1, 1) := by decide +kernel
theorem dX7_trace_6 : decode cX7_trace 6 = .ok (.i2l, 1) := by decide +kernel
theorem dX7_trace_7 : decode cX7_trace 7 = .ok (.lconst 0, 1) := by decide +kernel
theorem dX7_trace_8 : decode cX7_trace 8 = .ok (.aload_n 0, 1) := by decide +kernel
theorem dX7_trace_9 : decode cX7_trace 9 = .ok (.getfield 241, 3) := by decide +kernel
theorem dX7_trace_12 : decode cX7_trace 12 = .ok (.iconst 1, 1) := by decide +kernel
theorem dX7_trace_13 : decode cX7_trace 13 = .ok (.isub, 1) := by decide +kernel
theorem dX7_trace_14 : decode cX7_trace 14 = .ok (.i2l, 1) := by decide +kernel
theorem dX7_trace_15 : decode cX7_trace 15 = .ok (.invokestatic 60, 3) := by decide +kernel
theorem dX7_trace_18 : decode cX7_trace 18 = .ok (.ifCond .eq 12, 3) := by decide +kernel
theorem dX7_trace_21 : decode cX7_trace 21 = .ok (.aload_n 0, 1) := by decide +kernel
theorem dX7_trace_22 : decode cX7_trace 22 = .ok (.getfield 47, 3) := by decide +kernel
theorem dX7_trace_25 : decode cX7_trace 25 = .ok (.iload_n 1, 1) := by decide +kernel
theorem dX7_trace_26 : decode cX7_trace 26 = .ok (.iaload, 1) := by decide +kernel
theorem dX7_trace_27 : decode cX7_trace 27 = .ok (.goto 5, 3) := by decide +kernel
theorem dX7_trace_30 : decode cX7_trace 30 = .ok (.ldc 93, 2) := by decide +kernel
theorem dX7_trace_32 : decode cX7_trace 32 = .ok (.ireturn, 1) := by decide +kernel
theorem dX7_count_0 : decode cX7_count 0 = .ok (.aload_n 0, 1) := by decide +kernel
theorem dX7_count_1 : decode cX7_count 1 = .ok (.iconst 0, 1) := by decide +kernel
theorem dX7_count_2 : decode cX7_count 2 = .ok (.putfield 50, 3) := by decide +kernel
theorem dX7_count_5 : decode cX7_count 5 = .ok (.iconst 0, 1) := by decide +kernel
theorem dX7_count_6 : decode cX7_count 6 = .ok (.istore_n 2, 1) := by decide +kernel
theorem dX7_count_7 : decode cX7_count 7 = .ok (.iload_n 1, 1) := by decide +kernel
theorem dX7_count_8 : decode cX7_count 8 = .ok (.tableswitch 128 0 7 #[48, 81, 88, 96, 103, 111, 118, 123], 48) := by decide +kernel
theorem dX7_count_56 : decode cX7_count 56 = .ok (.iconst 0, 1) := by decide +kernel
theorem dX7_count_57 : decode cX7_count 57 = .ok (.istore_n 3, 1) := by decide +kernel
theorem dX7_count_58 : decode cX7_count 58 = .ok (.iload_n 3, 1) := by decide +kernel
theorem dX7_count_59 : decode cX7_count 59 = .ok (.bipush 8, 2) := by decide +kernel
theorem dX7_count_61 : decode cX7_count 61 = .ok (.if_icmp .ge 26, 3) := by decide +kernel
theorem dX7_count_64 : decode cX7_count 64 = .ok (.iload_n 2, 1) := by decide +kernel
theorem dX7_count_65 : decode cX7_count 65 = .ok (.aload_n 0, 1) := by decide +kernel
