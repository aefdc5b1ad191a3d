theorem dX6_set_7 : decode cX6_set 7 = .ok (.ldc 71, 2) := by decide +kernel
theorem dX6_set_9 : decode cX6_set 9 = .ok (.ireturn, 1) := by decide +kernel
theorem dX6_set_10 : decode cX6_set 10 = .ok (.aload_n 0, 1) := by decide +kernel
theorem dX6_set_11 : decode cX6_set 11 = .ok (.iload_n 1, 1) := by decide +kernel
theorem dX6_set_12 : decode cX6_set 12 = .ok (.iload_n 2, 1) := by decide +kernel
theorem dX6_set_13 : decode cX6_set 13 = .ok (.iconst 1, 1) := by decide +kernel
theorem dX6_set_14 : decode cX6_set 14 = .ok (.invokevirtual 83, 3) := by decide +kernel
theorem dX6_set_17 : decode cX6_set 17 = .ok (.istore 4, 2) := by decide +kernel
theorem dX6_set_19 : decode cX6_set 19 = .ok (.iload 4, 2) := by decide +kernel
theorem dX6_set_21 : decode cX6_set 21 = .ok (.ifCond .eq 12, 3) := by decide +kernel
theorem dX6_set_24 : decode cX6_set 24 = .ok (.aload_n 0, 1) := by decide +kernel
theorem dX6_set_25 : decode cX6_set 25 = .ok (.iload 4, 2) := by decide +kernel
theorem dX6_set_27 : decode cX6_set 27 = .ok (.invokevirtual 72, 3) := by decide +kernel
theorem dX6_set_30 : decode cX6_set 30 = .ok (.goto 17, 3) := by decide +kernel
theorem dX6_set_33 : decode cX6_set 33 = .ok (.aload_n 0, 1) := by decide +kernel
theorem dX6_set_34 : decode cX6_set 34 = .ok (.aload_n 0, 1) := by decide +kernel
theorem dX6_set_35 : decode cX6_set 35 = .ok (.getfield 10, 3) := by decide +kernel
theorem dX6_set_38 : decode cX6_set 38 = .ok (.iload_n 1, 1) := by decide +kernel
theorem dX6_set_39 : decode cX6_set 39 = .ok (.iload_n 2, 1) := by decide +kernel
theorem dX6_set_40 : decode cX6_set 40 = .ok (.iload_n 3, 1) := by decide +kernel
theorem dX6_set_41 : decode cX6_set 41 = .ok (.invokevirtual 87, 3) := by decide +kernel
theorem dX6_set_44 : decode cX6_set 44 = .ok (.invokevirtual 80, 3) := by decide +kernel
theorem dX6_set_47 : decode cX6_set 47 = .ok (.ireturn, 1) := by decide +kernel
theorem dX6_copy_0 : decode cX6_copy 0 = .ok (.iload_n 1, 1) := by decide +kernel
theorem dX6_copy_1 : decode cX6_copy 1 = .ok (.invokestatic 63, 3) := by decide +kernel
theorem dX6_copy_4 : decode cX6_copy 4 = .ok (.ifCond .ne 10, 3) := by decide +kernel
theorem dX6_copy_7 : decode cX6_copy 7 = .ok (.iload_n 3, 1) := by decide +kernel
theorem dX6_copy_8 : decode cX6_copy 8 = .ok (.invokestatic 63, 3) := by decide +kernel
theorem dX6_copy_11 : decode cX6_copy 11 = .ok (.ifCond .eq 6, 3) := by decide +kernel
theorem dX6_copy_14 : decode cX6_copy 14 = .ok (.ldc 71, 2) := by decide +kernel
theorem dX6_copy_16 : decode cX6_copy 16 = .ok (.ireturn, 1) := by decide +kernel
theorem dX6_copy_17 : decode cX6_copy 17 = .ok (.aload_n 0, 1) := by decide +kernel
theorem dX6_copy_18 : decode cX6_copy 18 = .ok (.getfield 10, 3) := by decide +kernel
theorem dX6_copy_21 : decode cX6_copy 21 = .ok (.iload_n 1, 1) := by decide +kernel
theorem dX6_copy_22 : decode cX6_copy 22 = .ok (.invokevirtual 90, 3) := by decide +kernel
theorem dX6_copy_25 : decode cX6_copy 25 = .ok (.ifCond .ne 14, 3) := by decide +kernel
theorem dX6_copy_28 : decode cX6_copy 28 = .ok (.aload_n 0, 1) := by decide +kernel
theorem dX6_copy_29 : decode cX6_copy 29 = .ok (.getfield 10, 3) := by decide +kernel
theorem dX6_copy_32 : decode cX6_copy 32 = .ok (.iload_n 3, 1) := by decide +kernel
theorem dX6_copy_33 : decode cX6_copy 33 = .ok (.invokevirtual 90, 3) := by decide +kernel
theorem dX6_copy_36 : decode cX6_copy 36 = .ok (.ifCond .eq 9, 3) := by decide +kernel
theorem dX6_copy_39 : decode cX6_copy 39 = .ok (.aload_n 0, 1) := by decide +kernel
theorem dX6_copy_40 : decode cX6_copy 40 = .ok (.iconst 1, 1) := by decide +kernel
theorem dX6_copy_41 : decode cX6_copy 41 = .ok (.invokevirtual 72, 3) := by decide +kernel
theorem dX6_copy_44 : decode cX6_copy 44 = .ok (.ireturn, 1) := by decide +kernel
theorem dX6_copy_45 : decode cX6_copy 45 = .ok (.aload_n 0, 1) := by decide +kernel
theorem dX6_copy_46 : decode cX6_copy 46 = .ok (.getfield 10, 3) := by decide +kernel
theorem dX6_copy_49 : decode cX6_copy 49 = .ok (.iload_n 1, 1) := by decide +kernel
theorem dX6_copy_50 : decode cX6_copy 50 = .ok (.invokevirtual 93, 3) := by decide +kernel
theorem dX6_copy_53 : decode cX6_copy 53 = .ok (.aload_n 0, 1) := by decide +kernel
theorem dX6_copy_54 : decode cX6_copy 54 = .ok (.getfield 10, 3) := by decide +kernel
theorem dX6_copy_57 : decode cX6_copy 57 = .ok (.iload_n 3, 1) := by decide +kernel
theorem dX6_copy_58 : decode cX6_copy 58 = .ok (.invokevirtual 93, 3) := by decide +kernel
theorem dX6_copy_61 : decode cX6_copy 61 = .ok (.if_icmp .eq 9, 3) := by decide +kernel
theorem dX6_copy_64 : decode cX6_copy 64 = .ok (.aload_n 0, 1) := by decide +kernel
theorem dX6_copy_65 : decode cX6_copy 65 = .ok (.iconst 5, 1) := by decide +kernel
theorem dX6_copy_66 : decode cX6_copy 66 = .ok (.invokevirtual 72, 3) := by decide +kernel
theorem dX6_copy_69 : decode cX6_copy 69 = .ok (.ireturn, 1) := by decide +kernel
theorem dX6_copy_70 : decode cX6_copy 70 = .ok (.aload_n 0, 1) := by decide +kernel
theorem dX6_copy_71 : decode cX6_copy 71 = .ok (.getfield 10, 3) := by decide +kernel
theorem dX6_copy_74 : decode cX6_copy 74 = .ok (.iload_n 1, 1) := by decide +kernel
theorem dX6_copy_75 : decode cX6_copy 75 = .ok (.iload_n 2, 1) := by decide +kernel
theorem dX6_copy_76 : decode cX6_copy 76 = .ok (.iload 5, 2) := by decide +kernel
theorem dX6_copy_78 : decode cX6_copy 78 = .ok (.invokevirtual 96, 3) := by decide +kernel
theorem dX6_copy_81 : decode cX6_copy 81 = .ok (.ifCond .eq 18, 3) := by decide +kernel
theorem dX6_copy_84 : decode cX6_copy 84 = .ok (.aload_n 0, 1) := by decide +kernel
theorem dX6_copy_85 : decode cX6_copy 85 = .ok (.getfield 10, 3) := by decide +kernel
theorem dX6_copy_88 : decode cX6_copy 88 = .ok (.iload_n 3, 1) := by decide +kernel
theorem dX6_copy_89 : decode cX6_copy 89 = .ok (.iload 4, 2) := by decide +kernel
theorem dX6_copy_91 : decode cX6_copy 91 = .ok (.iload 5, 2) := by decide +kernel
theorem dX6_copy_93 : decode cX6_copy 93 = .ok (.invokevirtual 96, 3) := by decide +kernel
theorem dX6_copy_96 : decode cX6_copy 96 = .ok (.ifCond .ne 9, 3) := by decide +kernel
theorem dX6_copy_99 : decode cX6_copy 99 = .ok (.aload_n 0, 1) := by decide +kernel
theorem dX6_copy_100 : decode cX6_copy 100 = .ok (.iconst 2, 1) := by decide +kernel
theorem dX6_copy_101 : decode cX6_copy 101 = .ok (.invokevirtual 72, 3) := by decide +kernel
theorem dX6_copy_104 : decode cX6_copy 104 = .ok (.ireturn, 1) := by decide +kernel
theorem dX6_copy_105 : decode cX6_copy 105 = .ok (.aload_n 0, 1) := by decide +kernel
theorem dX6_copy_106 : decode cX6_copy 106 = .ok (.getfield 10, 3) := by decide +kernel
theorem dX6_copy_109 : decode cX6_copy 109 = .ok (.iload_n 1, 1) := by decide +kernel
theorem dX6_copy_110 : decode cX6_copy 110 = .ok (.iload_n 2, 1) := by decide +kernel
theorem dX6_copy_111 : decode cX6_copy 111 = .ok (.iload_n 3, 1) := by decide +kernel
theorem dX6_copy_112 : decode cX6_copy 112 = .ok (.iload 4, 2) := by decide +kernel
theorem dX6_copy_114 : decode cX6_copy 114 = .ok (.iload 5, 2) := by decide +kernel
theorem dX6_copy_116 : decode cX6_copy 116 = .ok (.invokevirtual 99, 3) := by decide +kernel
theorem dX6_copy_119 : decode cX6_copy 119 = .ok (.aload_n 0, 1) := by decide +kernel
theorem dX6_copy_120 : decode cX6_copy 120 = .ok (.iload 5, 2) := by decide +kernel
theorem dX6_copy_122 : decode cX6_copy 122 = .ok (.invokevirtual 80, 3) := by decide +kernel
theorem dX6_copy_125 : decode cX6_copy 125 = .ok (.ireturn, 1) := by decide +kernel
theorem dX6_drop_0 : decode cX6_drop 0 = .ok (.iload_n 1, 1) := by decide +kernel
theorem dX6_drop_1 : decode cX6_drop 1 = .ok (.invokestatic 63, 3) := by decide +kernel
theorem dX6_drop_4 : decode cX6_drop 4 = .ok (.ifCond .eq 6, 3) := by decide +kernel
theorem dX6_drop_7 : decode cX6_drop 7 = .ok (.ldc 71, 2) := by decide +kernel
theorem dX6_drop_9 : decode cX6_drop 9 = .ok (.ireturn, 1) := by decide +kernel
theorem dX6_drop_10 : decode cX6_drop 10 = .ok (.aload_n 0, 1) := by decide +kernel
theorem dX6_drop_11 : decode cX6_drop 11 = .ok (.getfield 10, 3) := by decide +kernel
theorem dX6_drop_14 : decode cX6_drop 14 = .ok (.iload_n 1, 1) := by decide +kernel
theorem dX6_drop_15 : decode cX6_drop 15 = .ok (.invokevirtual 90, 3) := by decide +kernel
theorem dX6_drop_18 : decode cX6_drop 18 = .ok (.ifCond .eq 11, 3) := by decide +kernel
theorem dX6_drop_21 : decode cX6_drop 21 = .ok (.aload_n 0, 1) := by decide +kernel
theorem dX6_drop_22 : decode cX6_drop 22 = .ok (.iconst 1, 1) := by decide +kernel
theorem dX6_drop_23 : decode cX6_drop 23 = .ok (.invokevirtual 72, 3) := by decide +kernel
theorem dX6_drop_26 : decode cX6_drop 26 = .ok (.goto 15, 3) := by decide +kernel
theorem dX6_drop_29 : decode cX6_drop 29 = .ok (.aload_n 0, 1) := by decide +kernel
theorem dX6_drop_30 : decode cX6_drop 30 = .ok (.aload_n 0, 1) := by decide +kernel
theorem dX6_drop_31 : decode cX6_drop 31 = .ok (.getfield 10, 3) := by decide +kernel
theorem dX6_drop_34 : decode cX6_drop 34 = .ok (.iload_n 1, 1) := by decide +kernel
theorem dX6_drop_35 : decode cX6_drop 35 = .ok (.invokevirtual 103, 3) := by decide +kernel
theorem dX6_drop_38 : decode cX6_drop 38 = .ok (.invokevirtual 80, 3) := by decide +kernel
theorem dX6_drop_41 : decode cX6_drop 41 = .ok (.ireturn, 1) := by decide +kernel
theorem dX6_feed_0 : decode cX6_feed 0 = .ok (.iload_n 1, 1) := by decide +kernel
theorem dX6_feed_1 : decode cX6_feed 1 = .ok (.iconst 0, 1) := by decide +kernel
theorem dX6_feed_2 : decode cX6_feed 2 = .ok (.sipush 255, 3) := by decide +kernel
theorem dX6_feed_5 : decode cX6_feed 5 = .ok (.invokestatic 67, 3) := by decide +kernel
theorem dX6_feed_8 : decode cX6_feed 8 = .ok (.ifCond .eq 6, 3) := by decide +kernel
theorem dX6_feed_11 : decode cX6_feed 11 = .ok (.ldc 71, 2) := by decide +kernel
theorem dX6_feed_13 : decode cX6_feed 13 = .ok (.ireturn, 1) := by decide +kernel
theorem dX6_feed_14 : decode cX6_feed 14 = .ok (.aload_n 0, 1) := by decide +kernel
theorem dX6_feed_15 : decode cX6_feed 15 = .ok (.getfield 19, 3) := by decide +kernel
theorem dX6_feed_18 : decode cX6_feed 18 = .ok (.invokevirtual 106, 3) := by decide +kernel
theorem dX6_feed_21 : decode cX6_feed 21 = .ok (.ifCond .eq 8, 3) := by decide +kernel
theorem dX6_feed_24 : decode cX6_feed 24 = .ok (.ldc 110, 2) := by decide +kernel
theorem dX6_feed_26 : decode cX6_feed 26 = .ok (.goto 11, 3) := by decide +kernel
theorem dX6_feed_29 : decode cX6_feed 29 = .ok (.aload_n 0, 1) := by decide +kernel
theorem dX6_feed_30 : decode cX6_feed 30 = .ok (.getfield 19, 3) := by decide +kernel
theorem dX6_feed_33 : decode cX6_feed 33 = .ok (.iload_n 1, 1) := by decide +kernel
theorem dX6_feed_34 : decode cX6_feed 34 = .ok (.invokevirtual 111, 3) := by decide +kernel
theorem dX6_feed_37 : decode cX6_feed 37 = .ok (.ireturn, 1) := by decide +kernel
theorem dX6_bench_0 : decode cX6_bench 0 = .ok (.aload_n 0, 1) := by decide +kernel
theorem dX6_bench_1 : decode cX6_bench 1 = .ok (.getfield 19, 3) := by decide +kernel
theorem dX6_bench_4 : decode cX6_bench 4 = .ok (.aload_n 0, 1) := by decide +kernel
theorem dX6_bench_5 : decode cX6_bench 5 = .ok (.getfield 43, 3) := by decide +kernel
theorem dX6_bench_8 : decode cX6_bench 8 = .ok (.invokevirtual 114, 3) := by decide +kernel
theorem dX6_bench_11 : decode cX6_bench 11 = .ok (.istore_n 1, 1) := by decide +kernel
theorem dX6_bench_12 : decode cX6_bench 12 = .ok (.aload_n 0, 1) := by decide +kernel
theorem dX6_bench_13 : decode cX6_bench 13 = .ok (.getfield 19, 3) := by decide +kernel
theorem dX6_bench_16 : decode cX6_bench 16 = .ok (.invokevirtual 118, 3) := by decide +kernel
theorem dX6_bench_19 : decode cX6_bench 19 = .ok (.iload_n 1, 1) := by decide +kernel
theorem dX6_bench_20 : decode cX6_bench 20 = .ok (.ifCond .ne 25, 3) := by decide +kernel
theorem dX6_bench_23 : decode cX6_bench 23 = .ok (.aload_n 0, 1) := by decide +kernel
theorem dX6_bench_24 : decode cX6_bench 24 = .ok (.aload_n 0, 1) := by decide +kernel
theorem dX6_bench_25 : decode cX6_bench 25 = .ok (.getfield 19, 3) := by decide +kernel
theorem dX6_bench_28 : decode cX6_bench 28 = .ok (.getfield 121, 3) := by decide +kernel
theorem dX6_bench_31 : decode cX6_bench 31 = .ok (.putfield 56, 3) := by decide +kernel
theorem dX6_bench_34 : decode cX6_bench 34 = .ok (.ldc 124, 2) := by decide +kernel
theorem dX6_bench_36 : decode cX6_bench 36 = .ok (.aload_n 0, 1) := by decide +kernel
theorem dX6_bench_37 : decode cX6_bench 37 = .ok (.getfield 19, 3) := by decide +kernel
theorem dX6_bench_40 : decode cX6_bench 40 = .ok (.getfield 125, 3) := by decide +kernel
theorem dX6_bench_43 : decode cX6_bench 43 = .ok (.isub, 1) := by decide +kernel
theorem dX6_bench_44 : decode cX6_bench 44 = .ok (.ireturn, 1) := by decide +kernel
theorem dX6_bench_45 : decode cX6_bench 45 = .ok (.aload_n 0, 1) := by decide +kernel
theorem dX6_bench_46 : decode cX6_bench 46 = .ok (.getfield 26, 3) := by decide +kernel
theorem dX6_bench_49 : decode cX6_bench 49 = .ok (.aload_n 0, 1) := by decide +kernel
theorem dX6_bench_50 : decode cX6_bench 50 = .ok (.getfield 43, 3) := by decide +kernel
theorem dX6_bench_53 : decode cX6_bench 53 = .ok (.invokevirtual 128, 3) := by decide +kernel
theorem dX6_bench_56 : decode cX6_bench 56 = .ok (.aload_n 0, 1) := by decide +kernel
theorem dX6_bench_57 : decode cX6_bench 57 = .ok (.getfield 33, 3) := by decide +kernel
theorem dX6_bench_60 : decode cX6_bench 60 = .ok (.invokevirtual 132, 3) := by decide +kernel
theorem dX6_bench_63 : decode cX6_bench 63 = .ok (.aload_n 0, 1) := by decide +kernel
theorem dX6_bench_64 : decode cX6_bench 64 = .ok (.getfield 26, 3) := by decide +kernel
theorem dX6_bench_67 : decode cX6_bench 67 = .ok (.getfield 133, 3) := by decide +kernel
theorem dX6_bench_70 : decode cX6_bench 70 = .ok (.ireturn, 1) := by decide +kernel
theorem dX6_fault_0 : decode cX6_fault 0 = .ok (.aload_n 0, 1) := by decide +kernel
theorem dX6_fault_1 : decode cX6_fault 1 = .ok (.getfield 56, 3) := by decide +kernel
theorem dX6_fault_4 : decode cX6_fault 4 = .ok (.ireturn, 1) := by decide +kernel
theorem dX6_undo_0 : decode cX6_undo 0 = .ok (.aload_n 0, 1) := by decide +kernel
theorem dX6_undo_1 : decode cX6_undo 1 = .ok (.getfield 33, 3) := by decide +kernel
theorem dX6_undo_4 : decode cX6_undo 4 = .ok (.getfield 136, 3) := by decide +kernel
theorem dX6_undo_7 : decode cX6_undo 7 = .ok (.ifCond .ne 6, 3) := by decide +kernel
theorem dX6_undo_10 : decode cX6_undo 10 = .ok (.ldc 139, 2) := by decide +kernel
theorem dX6_undo_12 : decode cX6_undo 12 = .ok (.ireturn, 1) := by decide +kernel
theorem dX6_undo_13 : decode cX6_undo 13 = .ok (.aload_n 0, 1) := by decide +kernel
theorem dX6_undo_14 : decode cX6_undo 14 = .ok (.getfield 33, 3) := by decide +kernel
theorem dX6_undo_17 : decode cX6_undo 17 = .ok (.aload_n 0, 1) := by decide +kernel
theorem dX6_undo_18 : decode cX6_undo 18 = .ok (.getfield 26, 3) := by decide +kernel
theorem dX6_undo_21 : decode cX6_undo 21 = .ok (.invokevirtual 140, 3) := by decide +kernel
theorem dX6_undo_24 : decode cX6_undo 24 = .ok (.aload_n 0, 1) := by decide +kernel
theorem dX6_undo_25 : decode cX6_undo 25 = .ok (.getfield 33, 3) := by decide +kernel
theorem dX6_undo_28 : decode cX6_undo 28 = .ok (.getfield 136, 3) := by decide +kernel
theorem dX6_undo_31 : decode cX6_undo 31 = .ok (.ireturn, 1) := by decide +kernel
theorem dX6_hours_0 : decode cX6_hours 0 = .ok (.aload_n 0, 1) := by decide +kernel
theorem dX6_hours_1 : decode cX6_hours 1 = .ok (.invokevirtual 143, 3) := by decide +kernel
theorem dX6_hours_4 : decode cX6_hours 4 = .ok (.ifCond .eq 6, 3) := by decide +kernel
theorem dX6_hours_7 : decode cX6_hours 7 = .ok (.ldc 139, 2) := by decide +kernel
theorem dX6_hours_9 : decode cX6_hours 9 = .ok (.ireturn, 1) := by decide +kernel
theorem dX6_hours_10 : decode cX6_hours 10 = .ok (.iload_n 1, 1) := by decide +kernel
theorem dX6_hours_11 : decode cX6_hours 11 = .ok (.iconst 1, 1) := by decide +kernel
theorem dX6_hours_12 : decode cX6_hours 12 = .ok (.bipush 24, 2) := by decide +kernel
theorem dX6_hours_14 : decode cX6_hours 14 = .ok (.invokestatic 67, 3) := by decide +kernel
theorem dX6_hours_17 : decode cX6_hours 17 = .ok (.ifCond .eq 6, 3) := by decide +kernel
theorem dX6_hours_20 : decode cX6_hours 20 = .ok (.ldc 71, 2) := by decide +kernel
theorem dX6_hours_22 : decode cX6_hours 22 = .ok (.ireturn, 1) := by decide +kernel
theorem dX6_hours_23 : decode cX6_hours 23 = .ok (.aload_n 0, 1) := by decide +kernel
theorem dX6_hours_24 : decode cX6_hours 24 = .ok (.getfield 26, 3) := by decide +kernel
theorem dX6_hours_27 : decode cX6_hours 27 = .ok (.getfield 146, 3) := by decide +kernel
theorem dX6_hours_30 : decode cX6_hours 30 = .ok (.iload_n 1, 1) := by decide +kernel
theorem dX6_hours_31 : decode cX6_hours 31 = .ok (.iadd, 1) := by decide +kernel
theorem dX6_hours_32 : decode cX6_hours 32 = .ok (.sipush 999, 3) := by decide +kernel
theorem dX6_hours_35 : decode cX6_hours 35 = .ok (.if_icmp .le 6, 3) := by decide +kernel
theorem dX6_hours_38 : decode cX6_hours 38 = .ok (.ldc 110, 2) := by decide +kernel
theorem dX6_hours_40 : decode cX6_hours 40 = .ok (.ireturn, 1) := by decide +kernel
theorem dX6_hours_41 : decode cX6_hours 41 = .ok (.iconst 0, 1) := by decide +kernel
theorem dX6_hours_42 : decode cX6_hours 42 = .ok (.istore_n 2, 1) := by decide +kernel
theorem dX6_hours_43 : decode cX6_hours 43 = .ok (.iload_n 2, 1) := by decide +kernel
theorem dX6_hours_44 : decode cX6_hours 44 = .ok (.iload_n 1, 1) := by decide +kernel
theorem dX6_hours_45 : decode cX6_hours 45 = .ok (.if_icmp .ge 29, 3) := by decide +kernel
theorem dX6_hours_48 : decode cX6_hours 48 = .ok (.aload_n 0, 1) := by decide +kernel
theorem dX6_hours_49 : decode cX6_hours 49 = .ok (.getfield 33, 3) := by decide +kernel
theorem dX6_hours_52 : decode cX6_hours 52 = .ok (.aload_n 0, 1) := by decide +kernel
theorem dX6_hours_53 : decode cX6_hours 53 = .ok (.getfield 26, 3) := by decide +kernel
theorem dX6_hours_56 : decode cX6_hours 56 = .ok (.invokevirtual 149, 3) := by decide +kernel
theorem dX6_hours_59 : decode cX6_hours 59 = .ok (.aload_n 0, 1) := by decide +kernel
theorem dX6_hours_60 : decode cX6_hours 60 = .ok (.getfield 26, 3) := by decide +kernel
theorem dX6_hours_63 : decode cX6_hours 63 = .ok (.iconst 0, 1) := by decide +kernel
theorem dX6_hours_64 : decode cX6_hours 64 = .ok (.invokevirtual 152, 3) := by decide +kernel
theorem dX6_hours_67 : decode cX6_hours 67 = .ok (.pop, 1) := by decide +kernel
theorem dX6_hours_68 : decode cX6_hours 68 = .ok (.iinc 2 1, 3) := by decide +kernel
theorem dX6_hours_71 : decode cX6_hours 71 = .ok (.goto (-28), 3) := by decide +kernel
theorem dX6_hours_74 : decode cX6_hours 74 = .ok (.aload_n 0, 1) := by decide +kernel
theorem dX6_hours_75 : decode cX6_hours 75 = .ok (.getfield 26, 3) := by decide +kernel
theorem dX6_hours_78 : decode cX6_hours 78 = .ok (.invokevirtual 155, 3) := by decide +kernel
theorem dX6_hours_81 : decode cX6_hours 81 = .ok (.ireturn, 1) := by decide +kernel
theorem dX6_snuff_0 : decode cX6_snuff 0 = .ok (.aload_n 0, 1) := by decide +kernel
theorem dX6_snuff_1 : decode cX6_snuff 1 = .ok (.iload_n 1, 1) := by decide +kernel
theorem dX6_snuff_2 : decode cX6_snuff 2 = .ok (.invokevirtual 159, 3) := by decide +kernel
theorem dX6_snuff_5 : decode cX6_snuff 5 = .ok (.ifCond .eq 6, 3) := by decide +kernel
theorem dX6_snuff_8 : decode cX6_snuff 8 = .ok (.ldc 71, 2) := by decide +kernel
theorem dX6_snuff_10 : decode cX6_snuff 10 = .ok (.ireturn, 1) := by decide +kernel
theorem dX6_snuff_11 : decode cX6_snuff 11 = .ok (.aload_n 0, 1) := by decide +kernel
theorem dX6_snuff_12 : decode cX6_snuff 12 = .ok (.getfield 26, 3) := by decide +kernel
theorem dX6_snuff_15 : decode cX6_snuff 15 = .ok (.iload_n 1, 1) := by decide +kernel
theorem dX6_snuff_16 : decode cX6_snuff 16 = .ok (.invokevirtual 162, 3) := by decide +kernel
theorem dX6_snuff_19 : decode cX6_snuff 19 = .ok (.ifCond .gt 6, 3) := by decide +kernel
theorem dX6_snuff_22 : decode cX6_snuff 22 = .ok (.ldc 139, 2) := by decide +kernel
theorem dX6_snuff_24 : decode cX6_snuff 24 = .ok (.ireturn, 1) := by decide +kernel
theorem dX6_snuff_25 : decode cX6_snuff 25 = .ok (.aload_n 0, 1) := by decide +kernel
theorem dX6_snuff_26 : decode cX6_snuff 26 = .ok (.getfield 33, 3) := by decide +kernel
theorem dX6_snuff_29 : decode cX6_snuff 29 = .ok (.aload_n 0, 1) := by decide +kernel
theorem dX6_snuff_30 : decode cX6_snuff 30 = .ok (.getfield 26, 3) := by decide +kernel
theorem dX6_snuff_33 : decode cX6_snuff 33 = .ok (.invokevirtual 149, 3) := by decide +kernel
theorem dX6_snuff_36 : decode cX6_snuff 36 = .ok (.aload_n 0, 1) := by decide +kernel
theorem dX6_snuff_37 : decode cX6_snuff 37 = .ok (.getfield 26, 3) := by decide +kernel
theorem dX6_snuff_40 : decode cX6_snuff 40 = .ok (.iload_n 1, 1) := by decide +kernel
theorem dX6_snuff_41 : decode cX6_snuff 41 = .ok (.invokevirtual 165, 3) := by decide +kernel
theorem dX6_snuff_44 : decode cX6_snuff 44 = .ok (.aload_n 0, 1) := by decide +kernel
theorem dX6_snuff_45 : decode cX6_snuff 45 = .ok (.getfield 26, 3) := by decide +kernel
theorem dX6_snuff_48 : decode cX6_snuff 48 = .ok (.iload_n 1, 1) := by decide +kernel
theorem dX6_snuff_49 : decode cX6_snuff 49 = .ok (.invokevirtual 162, 3) := by decide +kernel
theorem dX6_snuff_52 : decode cX6_snuff 52 = .ok (.ireturn, 1) := by decide +kernel
theorem dX6_leave_0 : decode cX6_leave 0 = .ok (.aload_n 0, 1) := by decide +kernel
theorem dX6_leave_1 : decode cX6_leave 1 = .ok (.iload_n 1, 1) := by decide +kernel
theorem dX6_leave_2 : decode cX6_leave 2 = .ok (.invokevirtual 159, 3) := by decide +kernel
theorem dX6_leave_5 : decode cX6_leave 5 = .ok (.ifCond .eq 6, 3) := by decide +kernel
theorem dX6_leave_8 : decode cX6_leave 8 = .ok (.ldc 71, 2) := by decide +kernel
theorem dX6_leave_10 : decode cX6_leave 10 = .ok (.ireturn, 1) := by decide +kernel
theorem dX6_leave_11 : decode cX6_leave 11 = .ok (.aload_n 0, 1) := by decide +kernel
theorem dX6_leave_12 : decode cX6_leave 12 = .ok (.getfield 26, 3) := by decide +kernel
theorem dX6_leave_15 : decode cX6_leave 15 = .ok (.iload_n 1, 1) := by decide +kernel
theorem dX6_leave_16 : decode cX6_leave 16 = .ok (.invokevirtual 169, 3) := by decide +kernel
theorem dX6_leave_19 : decode cX6_leave 19 = .ok (.ifCond .eq 6, 3) := by decide +kernel
theorem dX6_leave_22 : decode cX6_leave 22 = .ok (.ldc 139, 2) := by decide +kernel
theorem dX6_leave_24 : decode cX6_leave 24 = .ok (.ireturn, 1) := by decide +kernel
theorem dX6_leave_25 : decode cX6_leave 25 = .ok (.aload_n 0, 1) := by decide +kernel
theorem dX6_leave_26 : decode cX6_leave 26 = .ok (.getfield 33, 3) := by decide +kernel
theorem dX6_leave_29 : decode cX6_leave 29 = .ok (.aload_n 0, 1) := by decide +kernel
theorem dX6_leave_30 : decode cX6_leave 30 = .ok (.getfield 26, 3) := by decide +kernel
theorem dX6_leave_33 : decode cX6_leave 33 = .ok (.invokevirtual 149, 3) := by decide +kernel
theorem dX6_leave_36 : decode cX6_leave 36 = .ok (.aload_n 0, 1) := by decide +kernel
theorem dX6_leave_37 : decode cX6_leave 37 = .ok (.getfield 26, 3) := by decide +kernel
theorem dX6_leave_40 : decode cX6_leave 40 = .ok (.iload_n 1, 1) := by decide +kernel
theorem dX6_leave_41 : decode cX6_leave 41 = .ok (.invokevirtual 172, 3) := by decide +kernel
theorem dX6_leave_44 : decode cX6_leave 44 = .ok (.aload_n 0, 1) := by decide +kernel
theorem dX6_leave_45 : decode cX6_leave 45 = .ok (.getfield 26, 3) := by decide +kernel
theorem dX6_leave_48 : decode cX6_leave 48 = .ok (.getfield 175, 3) := by decide +kernel
theorem dX6_leave_51 : decode cX6_leave 51 = .ok (.ireturn, 1) := by decide +kernel
theorem dX6_come_0 : decode cX6_come 0 = .ok (.aload_n 0, 1) := by decide +kernel
theorem dX6_come_1 : decode cX6_come 1 = .ok (.iload_n 1, 1) := by decide +kernel
theorem dX6_come_2 : decode cX6_come 2 = .ok (.invokevirtual 159, 3) := by decide +kernel
theorem dX6_come_5 : decode cX6_come 5 = .ok (.ifCond .eq 6, 3) := by decide +kernel
theorem dX6_come_8 : decode cX6_come 8 = .ok (.ldc 71, 2) := by decide +kernel
theorem dX6_come_10 : decode cX6_come 10 = .ok (.ireturn, 1) := by decide +kernel
theorem dX6_come_11 : decode cX6_come 11 = .ok (.aload_n 0, 1) := by decide +kernel
theorem dX6_come_12 : decode cX6_come 12 = .ok (.getfield 26, 3) := by decide +kernel
theorem dX6_come_15 : decode cX6_come 15 = .ok (.iload_n 1, 1) := by decide +kernel
theorem dX6_come_16 : decode cX6_come 16 = .ok (.invokevirtual 169, 3) := by decide +kernel
theorem dX6_come_19 : decode cX6_come 19 = .ok (.ifCond .ne 6, 3) := by decide +kernel
theorem dX6_come_22 : decode cX6_come 22 = .ok (.ldc 139, 2) := by decide +kernel
theorem dX6_come_24 : decode cX6_come 24 = .ok (.ireturn, 1) := by decide +kernel
theorem dX6_come_25 : decode cX6_come 25 = .ok (.aload_n 0, 1) := by decide +kernel
theorem dX6_come_26 : decode cX6_come 26 = .ok (.getfield 33, 3) := by decide +kernel
theorem dX6_come_29 : decode cX6_come 29 = .ok (.aload_n 0, 1) := by decide +kernel
theorem dX6_come_30 : decode cX6_come 30 = .ok (.getfield 26, 3) := by decide +kernel
theorem dX6_come_33 : decode cX6_come 33 = .ok (.invokevirtual 149, 3) := by decide +kernel
theorem dX6_come_36 : decode cX6_come 36 = .ok (.aload_n 0, 1) := by decide +kernel
theorem dX6_come_37 : decode cX6_come 37 = .ok (.getfield 26, 3) := by decide +kernel
theorem dX6_come_40 : decode cX6_come 40 = .ok (.iload_n 1, 1) := by decide +kernel
theorem dX6_come_41 : decode cX6_come 41 = .ok (.aload_n 0, 1) := by decide +kernel
theorem dX6_come_42 : decode cX6_come 42 = .ok (.getfield 26, 3) := by decide +kernel
theorem dX6_come_45 : decode cX6_come 45 = .ok (.getfield 175, 3) := by decide +kernel
theorem dX6_come_48 : decode cX6_come 48 = .ok (.invokevirtual 178, 3) := by decide +kernel
theorem dX6_come_51 : decode cX6_come 51 = .ok (.aload_n 0, 1) := by decide +kernel
theorem dX6_come_52 : decode cX6_come 52 = .ok (.getfield 26, 3) := by decide +kernel
theorem dX6_come_55 : decode cX6_come 55 = .ok (.iload_n 1, 1) := by decide +kernel
theorem dX6_come_56 : decode cX6_come 56 = .ok (.invokevirtual 162, 3) := by decide +kernel
theorem dX6_come_59 : decode cX6_come 59 = .ok (.ireturn, 1) := by decide +kernel
theorem dX6_june_0 : decode cX6_june 0 = .ok (.aload_n 0, 1) := by decide +kernel
theorem dX6_june_1 : decode cX6_june 1 = .ok (.invokevirtual 143, 3) := by decide +kernel
theorem dX6_june_4 : decode cX6_june 4 = .ok (.ifCond .eq 6, 3) := by decide +kernel
theorem dX6_june_7 : decode cX6_june 7 = .ok (.ldc 139, 2) := by decide +kernel
theorem dX6_june_9 : decode cX6_june 9 = .ok (.ireturn, 1) := by decide +kernel
theorem dX6_june_10 : decode cX6_june 10 = .ok (.iload_n 1, 1) := by decide +kernel
theorem dX6_june_11 : decode cX6_june 11 = .ok (.iconst 0, 1) := by decide +kernel
theorem dX6_june_12 : decode cX6_june 12 = .ok (.iconst 1, 1) := by decide +kernel
theorem dX6_june_13 : decode cX6_june 13 = .ok (.invokestatic 67, 3) := by decide +kernel
theorem dX6_june_16 : decode cX6_june 16 = .ok (.ifCond .eq 6, 3) := by decide +kernel
theorem dX6_june_19 : decode cX6_june 19 = .ok (.ldc 71, 2) := by decide +kernel
theorem dX6_june_21 : decode cX6_june 21 = .ok (.ireturn, 1) := by decide +kernel
theorem dX6_june_22 : decode cX6_june 22 = .ok (.aload_n 0, 1) := by decide +kernel
theorem dX6_june_23 : decode cX6_june 23 = .ok (.getfield 26, 3) := by decide +kernel
theorem dX6_june_26 : decode cX6_june 26 = .ok (.getfield 182, 3) := by decide +kernel
theorem dX6_june_29 : decode cX6_june 29 = .ok (.iload_n 1, 1) := by decide +kernel
theorem dX6_june_30 : decode cX6_june 30 = .ok (.iconst 1, 1) := by decide +kernel
theorem dX6_june_31 : decode cX6_june 31 = .ok (.if_icmp .ne 7, 3) := by decide +kernel
theorem dX6_june_34 : decode cX6_june 34 = .ok (.iconst 1, 1) := by decide +kernel
theorem dX6_june_35 : decode cX6_june 35 = .ok (.goto 4, 3) := by decide +kernel
theorem dX6_june_38 : decode cX6_june 38 = .ok (.iconst 0, 1) := by decide +kernel
theorem dX6_june_39 : decode cX6_june 39 = .ok (.if_icmp .ne 6, 3) := by decide +kernel
theorem dX6_june_42 : decode cX6_june 42 = .ok (.ldc 139, 2) := by decide +kernel
theorem dX6_june_44 : decode cX6_june 44 = .ok (.ireturn, 1) := by decide +kernel
theorem dX6_june_45 : decode cX6_june 45 = .ok (.aload_n 0, 1) := by decide +kernel
theorem dX6_june_46 : decode cX6_june 46 = .ok (.getfield 33, 3) := by decide +kernel
theorem dX6_june_49 : decode cX6_june 49 = .ok (.aload_n 0, 1) := by decide +kernel
theorem dX6_june_50 : decode cX6_june 50 = .ok (.getfield 26, 3) := by decide +kernel
theorem dX6_june_53 : decode cX6_june 53 = .ok (.invokevirtual 149, 3) := by decide +kernel
theorem dX6_june_56 : decode cX6_june 56 = .ok (.aload_n 0, 1) := by decide +kernel
theorem dX6_june_57 : decode cX6_june 57 = .ok (.getfield 26, 3) := by decide +kernel
theorem dX6_june_60 : decode cX6_june 60 = .ok (.iload_n 1, 1) := by decide +kernel
theorem dX6_june_61 : decode cX6_june 61 = .ok (.iconst 1, 1) := by decide +kernel
theorem dX6_june_62 : decode cX6_june 62 = .ok (.if_icmp .ne 7, 3) := by decide +kernel
theorem dX6_june_65 : decode cX6_june 65 = .ok (.iconst 1, 1) := by decide +kernel
theorem dX6_june_66 : decode cX6_june 66 = .ok (.goto 4, 3) := by decide +kernel
theorem dX6_june_69 : decode cX6_june 69 = .ok (.iconst 0, 1) := by decide +kernel
theorem dX6_june_70 : decode cX6_june 70 = .ok (.putfield 182, 3) := by decide +kernel
theorem dX6_june_73 : decode cX6_june 73 = .ok (.aload_n 0, 1) := by decide +kernel
theorem dX6_june_74 : decode cX6_june 74 = .ok (.getfield 26, 3) := by decide +kernel
theorem dX6_june_77 : decode cX6_june 77 = .ok (.invokevirtual 186, 3) := by decide +kernel
theorem dX6_june_80 : decode cX6_june 80 = .ok (.ireturn, 1) := by decide +kernel
theorem dX6_man_0 : decode cX6_man 0 = .ok (.aload_n 0, 1) := by decide +kernel
theorem dX6_man_1 : decode cX6_man 1 = .ok (.iload_n 1, 1) := by decide +kernel
theorem dX6_man_2 : decode cX6_man 2 = .ok (.invokevirtual 159, 3) := by decide +kernel
theorem dX6_man_5 : decode cX6_man 5 = .ok (.ifCond .eq 6, 3) := by decide +kernel
theorem dX6_man_8 : decode cX6_man 8 = .ok (.ldc 71, 2) := by decide +kernel
theorem dX6_man_10 : decode cX6_man 10 = .ok (.ireturn, 1) := by decide +kernel
theorem dX6_man_11 : decode cX6_man 11 = .ok (.iload_n 2, 1) := by decide +kernel
theorem dX6_man_12 : decode cX6_man 12 = .ok (.tableswitch 130 0 5 #[40, 49, 59, 93, 110, 120], 40) := by decide +kernel
theorem dX6_man_52 : decode cX6_man 52 = .ok (.aload_n 0, 1) := by decide +kernel
theorem dX6_man_53 : decode cX6_man 53 = .ok (.getfield 26, 3) := by decide +kernel
theorem dX6_man_56 : decode cX6_man 56 = .ok (.iload_n 1, 1) := by decide +kernel
theorem dX6_man_57 : decode cX6_man 57 = .ok (.invokestatic 189, 3) := by decide +kernel
theorem dX6_man_60 : decode cX6_man 60 = .ok (.ireturn, 1) := by decide +kernel
theorem dX6_man_61 : decode cX6_man 61 = .ok (.aload_n 0, 1) := by decide +kernel
theorem dX6_man_62 : decode cX6_man 62 = .ok (.getfield 26, 3) := by decide +kernel
theorem dX6_man_65 : decode cX6_man 65 = .ok (.getfield 193, 3) := by decide +kernel
theorem dX6_man_68 : decode cX6_man 68 = .ok (.iload_n 1, 1) := by decide +kernel
theorem dX6_man_69 : decode cX6_man 69 = .ok (.iaload, 1) := by decide +kernel
theorem dX6_man_70 : decode cX6_man 70 = .ok (.ireturn, 1) := by decide +kernel
theorem dX6_man_71 : decode cX6_man 71 = .ok (.aload_n 0, 1) := by decide +kernel
theorem dX6_man_72 : decode cX6_man 72 = .ok (.getfield 26, 3) := by decide +kernel
theorem dX6_man_75 : decode cX6_man 75 = .ok (.iload_n 1, 1) := by decide +kernel
theorem dX6_man_76 : decode cX6_man 76 = .ok (.invokevirtual 197, 3) := by decide +kernel
theorem dX6_man_79 : decode cX6_man 79 = .ok (.ifCond .eq 23, 3) := by decide +kernel
theorem dX6_man_82 : decode cX6_man 82 = .ok (.aload_n 0, 1) := by decide +kernel
theorem dX6_man_83 : decode cX6_man 83 = .ok (.getfield 26, 3) := by decide +kernel
theorem dX6_man_86 : decode cX6_man 86 = .ok (.getfield 200, 3) := by decide +kernel
theorem dX6_man_89 : decode cX6_man 89 = .ok (.iload_n 1, 1) := by decide +kernel
theorem dX6_man_90 : decode cX6_man 90 = .ok (.iaload, 1) := by decide +kernel
theorem dX6_man_91 : decode cX6_man 91 = .ok (.aload_n 0, 1) := by decide +kernel
theorem dX6_man_92 : decode cX6_man 92 = .ok (.getfield 26, 3) := by decide +kernel
theorem dX6_man_95 : decode cX6_man 95 = .ok (.getfield 146, 3) := by decide +kernel
theorem dX6_man_98 : decode cX6_man 98 = .ok (.isub, 1) := by decide +kernel
theorem dX6_man_99 : decode cX6_man 99 = .ok (.goto 5, 3) := by decide +kernel
theorem dX6_man_102 : decode cX6_man 102 = .ok (.ldc 203, 2) := by decide +kernel
theorem dX6_man_104 : decode cX6_man 104 = .ok (.ireturn, 1) := by decide +kernel
theorem dX6_man_105 : decode cX6_man 105 = .ok (.aload_n 0, 1) := by decide +kernel
theorem dX6_man_106 : decode cX6_man 106 = .ok (.getfield 26, 3) := by decide +kernel
theorem dX6_man_109 : decode cX6_man 109 = .ok (.iload_n 1, 1) := by decide +kernel
theorem dX6_man_110 : decode cX6_man 110 = .ok (.invokevirtual 204, 3) := by decide +kernel
theorem dX6_man_113 : decode cX6_man 113 = .ok (.ifCond .eq 7, 3) := by decide +kernel
theorem dX6_man_116 : decode cX6_man 116 = .ok (.iconst 1, 1) := by decide +kernel
theorem dX6_man_117 : decode cX6_man 117 = .ok (.goto 4, 3) := by decide +kernel
theorem dX6_man_120 : decode cX6_man 120 = .ok (.iconst 0, 1) := by decide +kernel
theorem dX6_man_121 : decode cX6_man 121 = .ok (.ireturn, 1) := by decide +kernel
theorem dX6_man_122 : decode cX6_man 122 = .ok (.aload_n 0, 1) := by decide +kernel
theorem dX6_man_123 : decode cX6_man 123 = .ok (.getfield 26, 3) := by decide +kernel
theorem dX6_man_126 : decode cX6_man 126 = .ok (.getfield 207, 3) := by decide +kernel
theorem dX6_man_129 : decode cX6_man 129 = .ok (.iload_n 1, 1) := by decide +kernel
theorem dX6_man_130 : decode cX6_man 130 = .ok (.iaload, 1) := by decide +kernel
theorem dX6_man_131 : decode cX6_man 131 = .ok (.ireturn, 1) := by decide +kernel
theorem dX6_man_132 : decode cX6_man 132 = .ok (.aload_n 0, 1) := by decide +kernel
theorem dX6_man_133 : decode cX6_man 133 = .ok (.getfield 26, 3) := by decide +kernel
theorem dX6_man_136 : decode cX6_man 136 = .ok (.getfield 210, 3) := by decide +kernel
theorem dX6_man_139 : decode cX6_man 139 = .ok (.iload_n 1, 1) := by decide +kernel
theorem dX6_man_140 : decode cX6_man 140 = .ok (.iaload, 1) := by decide +kernel
theorem dX6_man_141 : decode cX6_man 141 = .ok (.ireturn, 1) := by decide +kernel
theorem dX6_man_142 : decode cX6_man 142 = .ok (.ldc 71, 2) := by decide +kernel
theorem dX6_man_144 : decode cX6_man 144 = .ok (.ireturn, 1) := by decide +kernel
theorem dX6_place_0 : decode cX6_place 0 = .ok (.aload_n 0, 1) := by decide +kernel
theorem dX6_place_1 : decode cX6_place 1 = .ok (.invokevirtual 143, 3) := by decide +kernel
theorem dX6_place_4 : decode cX6_place 4 = .ok (.ifCond .eq 6, 3) := by decide +kernel
theorem dX6_place_7 : decode cX6_place 7 = .ok (.ldc 139, 2) := by decide +kernel
theorem dX6_place_9 : decode cX6_place 9 = .ok (.ireturn, 1) := by decide +kernel
theorem dX6_place_10 : decode cX6_place 10 = .ok (.iload_n 1, 1) := by decide +kernel
theorem dX6_place_11 : decode cX6_place 11 = .ok (.iconst 0, 1) := by decide +kernel
theorem dX6_place_12 : decode cX6_place 12 = .ok (.bipush 6, 2) := by decide +kernel
theorem dX6_place_14 : decode cX6_place 14 = .ok (.invokestatic 67, 3) := by decide +kernel
theorem dX6_place_17 : decode cX6_place 17 = .ok (.ifCond .eq 6, 3) := by decide +kernel
theorem dX6_place_20 : decode cX6_place 20 = .ok (.ldc 71, 2) := by decide +kernel
theorem dX6_place_22 : decode cX6_place 22 = .ok (.ireturn, 1) := by decide +kernel
theorem dX6_place_23 : decode cX6_place 23 = .ok (.iload_n 1, 1) := by decide +kernel
theorem dX6_place_24 : decode cX6_place 24 = .ok (.aload_n 0, 1) := by decide +kernel
theorem dX6_place_25 : decode cX6_place 25 = .ok (.getfield 26, 3) := by decide +kernel
theorem dX6_place_28 : decode cX6_place 28 = .ok (.getfield 175, 3) := by decide +kernel
theorem dX6_place_31 : decode cX6_place 31 = .ok (.if_icmp .ge 15, 3) := by decide +kernel
theorem dX6_place_34 : decode cX6_place 34 = .ok (.aload_n 0, 1) := by decide +kernel
theorem dX6_place_35 : decode cX6_place 35 = .ok (.getfield 26, 3) := by decide +kernel
theorem dX6_place_38 : decode cX6_place 38 = .ok (.getfield 213, 3) := by decide +kernel
theorem dX6_place_41 : decode cX6_place 41 = .ok (.iload_n 1, 1) := by decide +kernel
theorem dX6_place_42 : decode cX6_place 42 = .ok (.iaload, 1) := by decide +kernel
theorem dX6_place_43 : decode cX6_place 43 = .ok (.goto 5, 3) := by decide +kernel
theorem dX6_place_46 : decode cX6_place 46 = .ok (.ldc 203, 2) := by decide +kernel
theorem dX6_place_48 : decode cX6_place 48 = .ok (.ireturn, 1) := by decide +kernel
theorem dX6_sun_0 : decode cX6_sun 0 = .ok (.aload_n 0, 1) := by decide +kernel
theorem dX6_sun_1 : decode cX6_sun 1 = .ok (.invokevirtual 143, 3) := by decide +kernel
theorem dX6_sun_4 : decode cX6_sun 4 = .ok (.ifCond .eq 6, 3) := by decide +kernel
theorem dX6_sun_7 : decode cX6_sun 7 = .ok (.ldc 139, 2) := by decide +kernel
theorem dX6_sun_9 : decode cX6_sun 9 = .ok (.ireturn, 1) := by decide +kernel
theorem dX6_sun_10 : decode cX6_sun 10 = .ok (.iload_n 1, 1) := by decide +kernel
theorem dX6_sun_11 : decode cX6_sun 11 = .ok (.iconst 0, 1) := by decide +kernel
theorem dX6_sun_12 : decode cX6_sun 12 = .ok (.bipush 23, 2) := by decide +kernel
theorem dX6_sun_14 : decode cX6_sun 14 = .ok (.invokestatic 67, 3) := by decide +kernel
theorem dX6_sun_17 : decode cX6_sun 17 = .ok (.ifCond .eq 8, 3) := by decide +kernel
theorem dX6_sun_20 : decode cX6_sun 20 = .ok (.ldc 71, 2) := by decide +kernel
theorem dX6_sun_22 : decode cX6_sun 22 = .ok (.goto 11, 3) := by decide +kernel
theorem dX6_sun_25 : decode cX6_sun 25 = .ok (.aload_n 0, 1) := by decide +kernel
theorem dX6_sun_26 : decode cX6_sun 26 = .ok (.getfield 26, 3) := by decide +kernel
theorem dX6_sun_29 : decode cX6_sun 29 = .ok (.iload_n 1, 1) := by decide +kernel
theorem dX6_sun_30 : decode cX6_sun 30 = .ok (.invokevirtual 216, 3) := by decide +kernel
theorem dX6_sun_33 : decode cX6_sun 33 = .ok (.ireturn, 1) := by decide +kernel
theorem dX6_ahead_0 : decode cX6_ahead 0 = .ok (.aload_n 0, 1) := by decide +kernel
theorem dX6_ahead_1 : decode cX6_ahead 1 = .ok (.iload_n 1, 1) := by decide +kernel
theorem dX6_ahead_2 : decode cX6_ahead 2 = .ok (.invokevirtual 159, 3) := by decide +kernel
theorem dX6_ahead_5 : decode cX6_ahead 5 = .ok (.ifCond .ne 22, 3) := by decide +kernel
theorem dX6_ahead_8 : decode cX6_ahead 8 = .ok (.iload_n 2, 1) := by decide +kernel
theorem dX6_ahead_9 : decode cX6_ahead 9 = .ok (.iconst 0, 1) := by decide +kernel
theorem dX6_ahead_10 : decode cX6_ahead 10 = .ok (.bipush 60, 2) := by decide +kernel
theorem dX6_ahead_12 : decode cX6_ahead 12 = .ok (.invokestatic 67, 3) := by decide +kernel
theorem dX6_ahead_15 : decode cX6_ahead 15 = .ok (.ifCond .ne 12, 3) := by decide +kernel
theorem dX6_ahead_18 : decode cX6_ahead 18 = .ok (.iload_n 3, 1) := by decide +kernel
theorem dX6_ahead_19 : decode cX6_ahead 19 = .ok (.iconst 0, 1) := by decide +kernel
theorem dX6_ahead_20 : decode cX6_ahead 20 = .ok (.iconst 1, 1) := by decide +kernel
theorem dX6_ahead_21 : decode cX6_ahead 21 = .ok (.invokestatic 67, 3) := by decide +kernel
theorem dX6_ahead_24 : decode cX6_ahead 24 = .ok (.ifCond .eq 6, 3) := by decide +kernel
theorem dX6_ahead_27 : decode cX6_ahead 27 = .ok (.ldc 71, 2) := by decide +kernel
theorem dX6_ahead_29 : decode cX6_ahead 29 = .ok (.ireturn, 1) := by decide +kernel
theorem dX6_ahead_30 : decode cX6_ahead 30 = .ok (.aload_n 0, 1) := by decide +kernel
theorem dX6_ahead_31 : decode cX6_ahead 31 = .ok (.aload_n 0, 1) := by decide +kernel
theorem dX6_ahead_32 : decode cX6_ahead 32 = .ok (.getfield 43, 3) := by decide +kernel
theorem dX6_ahead_35 : decode cX6_ahead 35 = .ok (.iload_n 2, 1) := by decide +kernel
theorem dX6_ahead_36 : decode cX6_ahead 36 = .ok (.invokevirtual 219, 3) := by decide +kernel
theorem dX6_ahead_39 : decode cX6_ahead 39 = .ok (.pop, 1) := by decide +kernel
theorem dX6_ahead_40 : decode cX6_ahead 40 = .ok (.iload_n 3, 1) := by decide +kernel
theorem dX6_ahead_41 : decode cX6_ahead 41 = .ok (.ifCond .ne 14, 3) := by decide +kernel
theorem dX6_ahead_44 : decode cX6_ahead 44 = .ok (.aload_n 0, 1) := by decide +kernel
theorem dX6_ahead_45 : decode cX6_ahead 45 = .ok (.getfield 43, 3) := by decide +kernel
theorem dX6_ahead_48 : decode cX6_ahead 48 = .ok (.iload_n 1, 1) := by decide +kernel
theorem dX6_ahead_49 : decode cX6_ahead 49 = .ok (.invokestatic 189, 3) := by decide +kernel
theorem dX6_ahead_52 : decode cX6_ahead 52 = .ok (.goto 12, 3) := by decide +kernel
theorem dX6_ahead_55 : decode cX6_ahead 55 = .ok (.aload_n 0, 1) := by decide +kernel
theorem dX6_ahead_56 : decode cX6_ahead 56 = .ok (.getfield 43, 3) := by decide +kernel
theorem dX6_ahead_59 : decode cX6_ahead 59 = .ok (.getfield 193, 3) := by decide +kernel
theorem dX6_ahead_62 : decode cX6_ahead 62 = .ok (.iload_n 1, 1) := by decide +kernel
theorem dX6_ahead_63 : decode cX6_ahead 63 = .ok (.iaload, 1) := by decide +kernel
theorem dX6_ahead_64 : decode cX6_ahead 64 = .ok (.ireturn, 1) := by decide +kernel
theorem dX6_sunny_0 : decode cX6_sunny 0 = .ok (.aload_n 0, 1) := by decide +kernel
theorem dX6_sunny_1 : decode cX6_sunny 1 = .ok (.iload_n 1, 1) := by decide +kernel
theorem dX6_sunny_2 : decode cX6_sunny 2 = .ok (.invokevirtual 159, 3) := by decide +kernel
theorem dX6_sunny_5 : decode cX6_sunny 5 = .ok (.ifCond .eq 6, 3) := by decide +kernel
theorem dX6_sunny_8 : decode cX6_sunny 8 = .ok (.ldc 71, 2) := by decide +kernel
theorem dX6_sunny_10 : decode cX6_sunny 10 = .ok (.ireturn, 1) := by decide +kernel
theorem dX6_sunny_11 : decode cX6_sunny 11 = .ok (.aload_n 0, 1) := by decide +kernel
theorem dX6_sunny_12 : decode cX6_sunny 12 = .ok (.getfield 43, 3) := by decide +kernel
theorem dX6_sunny_15 : decode cX6_sunny 15 = .ok (.aload_n 0, 1) := by decide +kernel
theorem dX6_sunny_16 : decode cX6_sunny 16 = .ok (.getfield 26, 3) := by decide +kernel
theorem dX6_sunny_19 : decode cX6_sunny 19 = .ok (.invokevirtual 128, 3) := by decide +kernel
theorem dX6_sunny_22 : decode cX6_sunny 22 = .ok (.iconst 0, 1) := by decide +kernel
theorem dX6_sunny_23 : decode cX6_sunny 23 = .ok (.istore_n 2, 1) := by decide +kernel
theorem dX6_sunny_24 : decode cX6_sunny 24 = .ok (.iload_n 2, 1) := by decide +kernel
theorem dX6_sunny_25 : decode cX6_sunny 25 = .ok (.bipush 60, 2) := by decide +kernel
theorem dX6_sunny_27 : decode cX6_sunny 27 = .ok (.if_icmp .gt 31, 3) := by decide +kernel
theorem dX6_sunny_30 : decode cX6_sunny 30 = .ok (.aload_n 0, 1) := by decide +kernel
theorem dX6_sunny_31 : decode cX6_sunny 31 = .ok (.getfield 43, 3) := by decide +kernel
theorem dX6_sunny_34 : decode cX6_sunny 34 = .ok (.iload_n 1, 1) := by decide +kernel
theorem dX6_sunny_35 : decode cX6_sunny 35 = .ok (.invokevirtual 204, 3) := by decide +kernel
theorem dX6_sunny_38 : decode cX6_sunny 38 = .ok (.ifCond .eq 5, 3) := by decide +kernel
theorem dX6_sunny_41 : decode cX6_sunny 41 = .ok (.iload_n 2, 1) := by decide +kernel
theorem dX6_sunny_42 : decode cX6_sunny 42 = .ok (.ireturn, 1) := by decide +kernel
theorem dX6_sunny_43 : decode cX6_sunny 43 = .ok (.aload_n 0, 1) := by decide +kernel
theorem dX6_sunny_44 : decode cX6_sunny 44 = .ok (.getfield 43, 3) := by decide +kernel
theorem dX6_sunny_47 : decode cX6_sunny 47 = .ok (.iconst 0, 1) := by decide +kernel
theorem dX6_sunny_48 : decode cX6_sunny 48 = .ok (.invokevirtual 152, 3) := by decide +kernel
theorem dX6_sunny_51 : decode cX6_sunny 51 = .ok (.pop, 1) := by decide +kernel
theorem dX6_sunny_52 : decode cX6_sunny 52 = .ok (.iinc 2 1, 3) := by decide +kernel
theorem dX6_sunny_55 : decode cX6_sunny 55 = .ok (.goto (-31), 3) := by decide +kernel
theorem dX6_sunny_58 : decode cX6_sunny 58 = .ok (.ldc 203, 2) := by decide +kernel
theorem dX6_sunny_60 : decode cX6_sunny 60 = .ok (.ireturn, 1) := by decide +kernel
theorem dX6_most_0 : decode cX6_most 0 = .ok (.aload_n 0, 1) := by decide +kernel
theorem dX6_most_1 : decode cX6_most 1 = .ok (.invokevirtual 143, 3) := by decide +kernel
theorem dX6_most_4 : decode cX6_most 4 = .ok (.ifCond .eq 6, 3) := by decide +kernel
theorem dX6_most_7 : decode cX6_most 7 = .ok (.ldc 139, 2) := by decide +kernel
theorem dX6_most_9 : decode cX6_most 9 = .ok (.ireturn, 1) := by decide +kernel
theorem dX6_most_10 : decode cX6_most 10 = .ok (.iload_n 1, 1) := by decide +kernel
theorem dX6_most_11 : decode cX6_most 11 = .ok (.iconst 0, 1) := by decide +kernel
theorem dX6_most_12 : decode cX6_most 12 = .ok (.bipush 60, 2) := by decide +kernel
theorem dX6_most_14 : decode cX6_most 14 = .ok (.invokestatic 67, 3) := by decide +kernel
theorem dX6_most_17 : decode cX6_most 17 = .ok (.ifCond .ne 12, 3) := by decide +kernel
theorem dX6_most_20 : decode cX6_most 20 = .ok (.iload_n 2, 1) := by decide +kernel
theorem dX6_most_21 : decode cX6_most 21 = .ok (.iconst 0, 1) := by decide +kernel
theorem dX6_most_22 : decode cX6_most 22 = .ok (.iconst 1, 1) := by decide +kernel
theorem dX6_most_23 : decode cX6_most 23 = .ok (.invokestatic 67, 3) := by decide +kernel
theorem dX6_most_26 : decode cX6_most 26 = .ok (.ifCond .eq 6, 3) := by decide +kernel
theorem dX6_most_29 : decode cX6_most 29 = .ok (.ldc 71, 2) := by decide +kernel
theorem dX6_most_31 : decode cX6_most 31 = .ok (.ireturn, 1) := by decide +kernel
theorem dX6_most_32 : decode cX6_most 32 = .ok (.aload_n 0, 1) := by decide +kernel
theorem dX6_most_33 : decode cX6_most 33 = .ok (.aload_n 0, 1) := by decide +kernel
theorem dX6_most_34 : decode cX6_most 34 = .ok (.getfield 43, 3) := by decide +kernel
theorem dX6_most_37 : decode cX6_most 37 = .ok (.iload_n 1, 1) := by decide +kernel
theorem dX6_most_38 : decode cX6_most 38 = .ok (.invokevirtual 219, 3) := by decide +kernel
theorem dX6_most_41 : decode cX6_most 41 = .ok (.pop, 1) := by decide +kernel
theorem dX6_most_42 : decode cX6_most 42 = .ok (.iconst 0, 1) := by decide +kernel
theorem dX6_most_43 : decode cX6_most 43 = .ok (.istore_n 3, 1) := by decide +kernel
theorem dX6_most_44 : decode cX6_most 44 = .ok (.iconst 1, 1) := by decide +kernel
theorem dX6_most_45 : decode cX6_most 45 = .ok (.istore 4, 2) := by decide +kernel
theorem dX6_most_47 : decode cX6_most 47 = .ok (.iload 4, 2) := by decide +kernel
theorem dX6_most_49 : decode cX6_most 49 = .ok (.aload_n 0, 1) := by decide +kernel
theorem dX6_most_50 : decode cX6_most 50 = .ok (.getfield 43, 3) := by decide +kernel
theorem dX6_most_53 : decode cX6_most 53 = .ok (.getfield 133, 3) := by decide +kernel
theorem dX6_most_56 : decode cX6_most 56 = .ok (.if_icmp .ge 34, 3) := by decide +kernel
theorem dX6_most_59 : decode cX6_most 59 = .ok (.aload_n 0, 1) := by decide +kernel
theorem dX6_most_60 : decode cX6_most 60 = .ok (.getfield 43, 3) := by decide +kernel
theorem dX6_most_63 : decode cX6_most 63 = .ok (.getfield 193, 3) := by decide +kernel
theorem dX6_most_66 : decode cX6_most 66 = .ok (.iload 4, 2) := by decide +kernel
theorem dX6_most_68 : decode cX6_most 68 = .ok (.iaload, 1) := by decide +kernel
theorem dX6_most_69 : decode cX6_most 69 = .ok (.aload_n 0, 1) := by decide +kernel
theorem dX6_most_70 : decode cX6_most 70 = .ok (.getfield 43, 3) := by decide +kernel
theorem dX6_most_73 : decode cX6_most 73 = .ok (.getfield 193, 3) := by decide +kernel
theorem dX6_most_76 : decode cX6_most 76 = .ok (.iload_n 3, 1) := by decide +kernel
theorem dX6_most_77 : decode cX6_most 77 = .ok (.iaload, 1) := by decide +kernel
theorem dX6_most_78 : decode cX6_most 78 = .ok (.if_icmp .le 6, 3) := by decide +kernel
theorem dX6_most_81 : decode cX6_most 81 = .ok (.iload 4, 2) := by decide +kernel
theorem dX6_most_83 : decode cX6_most 83 = .ok (.istore_n 3, 1) := by decide +kernel
theorem dX6_most_84 : decode cX6_most 84 = .ok (.iinc 4 1, 3) := by decide +kernel
theorem dX6_most_87 : decode cX6_most 87 = .ok (.goto (-40), 3) := by decide +kernel
theorem dX6_most_90 : decode cX6_most 90 = .ok (.iload_n 2, 1) := by decide +kernel
theorem dX6_most_91 : decode cX6_most 91 = .ok (.ifCond .ne 7, 3) := by decide +kernel
theorem dX6_most_94 : decode cX6_most 94 = .ok (.iload_n 3, 1) := by decide +kernel
theorem dX6_most_95 : decode cX6_most 95 = .ok (.goto 12, 3) := by decide +kernel
theorem dX6_most_98 : decode cX6_most 98 = .ok (.aload_n 0, 1) := by decide +kernel
theorem dX6_most_99 : decode cX6_most 99 = .ok (.getfield 43, 3) := by decide +kernel
theorem dX6_most_102 : decode cX6_most 102 = .ok (.getfield 193, 3) := by decide +kernel
theorem dX6_most_105 : decode cX6_most 105 = .ok (.iload_n 3, 1) := by decide +kernel
theorem dX6_most_106 : decode cX6_most 106 = .ok (.iaload, 1) := by decide +kernel
theorem dX6_most_107 : decode cX6_most 107 = .ok (.ireturn, 1) := by decide +kernel
theorem dX6_leastSnuff_0 : decode cX6_leastSnuff 0 = .ok (.aload_n 0, 1) := by decide +kernel
theorem dX6_leastSnuff_1 : decode cX6_leastSnuff 1 = .ok (.iload_n 1, 1) := by decide +kernel
theorem dX6_leastSnuff_2 : decode cX6_leastSnuff 2 = .ok (.invokevirtual 159, 3) := by decide +kernel
theorem dX6_leastSnuff_5 : decode cX6_leastSnuff 5 = .ok (.ifCond .ne 23, 3) := by decide +kernel
theorem dX6_leastSnuff_8 : decode cX6_leastSnuff 8 = .ok (.iload_n 2, 1) := by decide +kernel
theorem dX6_leastSnuff_9 : decode cX6_leastSnuff 9 = .ok (.iconst 1, 1) := by decide +kernel
theorem dX6_leastSnuff_10 : decode cX6_leastSnuff 10 = .ok (.bipush 60, 2) := by decide +kernel
theorem dX6_leastSnuff_12 : decode cX6_leastSnuff 12 = .ok (.invokestatic 67, 3) := by decide +kernel
theorem dX6_leastSnuff_15 : decode cX6_leastSnuff 15 = .ok (.ifCond .ne 13, 3) := by decide +kernel
theorem dX6_leastSnuff_18 : decode cX6_leastSnuff 18 = .ok (.iload_n 3, 1) := by decide +kernel
theorem dX6_leastSnuff_19 : decode cX6_leastSnuff 19 = .ok (.iconst 1, 1) := by decide +kernel
theorem dX6_leastSnuff_20 : decode cX6_leastSnuff 20 = .ok (.bipush 60, 2) := by decide +kernel
theorem dX6_leastSnuff_22 : decode cX6_leastSnuff 22 = .ok (.invokestatic 67, 3) := by decide +kernel
theorem dX6_leastSnuff_25 : decode cX6_leastSnuff 25 = .ok (.ifCond .eq 6, 3) := by decide +kernel
theorem dX6_leastSnuff_28 : decode cX6_leastSnuff 28 = .ok (.ldc 71, 2) := by decide +kernel
theorem dX6_leastSnuff_30 : decode cX6_leastSnuff 30 = .ok (.ireturn, 1) := by decide +kernel
theorem dX6_leastSnuff_31 : decode cX6_leastSnuff 31 = .ok (.aload_n 0, 1) := by decide +kernel
theorem dX6_leastSnuff_32 : decode cX6_leastSnuff 32 = .ok (.getfield 26, 3) := by decide +kernel
theorem dX6_leastSnuff_35 : decode cX6_leastSnuff 35 = .ok (.iload_n 1, 1) := by decide +kernel
theorem dX6_leastSnuff_36 : decode cX6_leastSnuff 36 = .ok (.invokevirtual 162, 3) := by decide +kernel
theorem dX6_leastSnuff_39 : decode cX6_leastSnuff 39 = .ok (.istore 4, 2) := by decide +kernel
theorem dX6_leastSnuff_41 : decode cX6_leastSnuff 41 = .ok (.iload 4, 2) := by decide +kernel
theorem dX6_leastSnuff_43 : decode cX6_leastSnuff 43 = .ok (.ifCond .ge 6, 3) := by decide +kernel
theorem dX6_leastSnuff_46 : decode cX6_leastSnuff 46 = .ok (.ldc 139, 2) := by decide +kernel
theorem dX6_leastSnuff_48 : decode cX6_leastSnuff 48 = .ok (.ireturn, 1) := by decide +kernel
theorem dX6_leastSnuff_49 : decode cX6_leastSnuff 49 = .ok (.aload_n 0, 1) := by decide +kernel
theorem dX6_leastSnuff_50 : decode cX6_leastSnuff 50 = .ok (.getfield 46, 3) := by decide +kernel
theorem dX6_leastSnuff_53 : decode cX6_leastSnuff 53 = .ok (.aload_n 0, 1) := by decide +kernel
theorem dX6_leastSnuff_54 : decode cX6_leastSnuff 54 = .ok (.getfield 26, 3) := by decide +kernel
theorem dX6_leastSnuff_57 : decode cX6_leastSnuff 57 = .ok (.invokevirtual 128, 3) := by decide +kernel
theorem dX6_leastSnuff_60 : decode cX6_leastSnuff 60 = .ok (.iconst 0, 1) := by decide +kernel
theorem dX6_leastSnuff_61 : decode cX6_leastSnuff 61 = .ok (.istore 5, 2) := by decide +kernel
theorem dX6_leastSnuff_63 : decode cX6_leastSnuff 63 = .ok (.iload 5, 2) := by decide +kernel
theorem dX6_leastSnuff_65 : decode cX6_leastSnuff 65 = .ok (.iload 4, 2) := by decide +kernel
theorem dX6_leastSnuff_67 : decode cX6_leastSnuff 67 = .ok (.if_icmp .gt 63, 3) := by decide +kernel
theorem dX6_leastSnuff_70 : decode cX6_leastSnuff 70 = .ok (.aload_n 0, 1) := by decide +kernel
theorem dX6_leastSnuff_71 : decode cX6_leastSnuff 71 = .ok (.getfield 43, 3) := by decide +kernel
theorem dX6_leastSnuff_74 : decode cX6_leastSnuff 74 = .ok (.aload_n 0, 1) := by decide +kernel
theorem dX6_leastSnuff_75 : decode cX6_leastSnuff 75 = .ok (.getfield 46, 3) := by decide +kernel
theorem dX6_leastSnuff_78 : decode cX6_leastSnuff 78 = .ok (.invokevirtual 128, 3) := by decide +kernel
theorem dX6_leastSnuff_81 : decode cX6_leastSnuff 81 = .ok (.aload_n 0, 1) := by decide +kernel
theorem dX6_leastSnuff_82 : decode cX6_leastSnuff 82 = .ok (.getfield 43, 3) := by decide +kernel
theorem dX6_leastSnuff_85 : decode cX6_leastSnuff 85 = .ok (.iload_n 2, 1) := by decide +kernel
theorem dX6_leastSnuff_86 : decode cX6_leastSnuff 86 = .ok (.invokevirtual 222, 3) := by decide +kernel
theorem dX6_leastSnuff_89 : decode cX6_leastSnuff 89 = .ok (.pop, 1) := by decide +kernel
theorem dX6_leastSnuff_90 : decode cX6_leastSnuff 90 = .ok (.aload_n 0, 1) := by decide +kernel
theorem dX6_leastSnuff_91 : decode cX6_leastSnuff 91 = .ok (.getfield 43, 3) := by decide +kernel
theorem dX6_leastSnuff_94 : decode cX6_leastSnuff 94 = .ok (.getfield 193, 3) := by decide +kernel
theorem dX6_leastSnuff_97 : decode cX6_leastSnuff 97 = .ok (.iload_n 1, 1) := by decide +kernel
theorem dX6_leastSnuff_98 : decode cX6_leastSnuff 98 = .ok (.iaload, 1) := by decide +kernel
theorem dX6_leastSnuff_99 : decode cX6_leastSnuff 99 = .ok (.aload_n 0, 1) := by decide +kernel
theorem dX6_leastSnuff_100 : decode cX6_leastSnuff 100 = .ok (.getfield 26, 3) := by decide +kernel
theorem dX6_leastSnuff_103 : decode cX6_leastSnuff 103 = .ok (.getfield 193, 3) := by decide +kernel
theorem dX6_leastSnuff_106 : decode cX6_leastSnuff 106 = .ok (.iload_n 1, 1) := by decide +kernel
theorem dX6_leastSnuff_107 : decode cX6_leastSnuff 107 = .ok (.iaload, 1) := by decide +kernel
theorem dX6_leastSnuff_108 : decode cX6_leastSnuff 108 = .ok (.isub, 1) := by decide +kernel
theorem dX6_leastSnuff_109 : decode cX6_leastSnuff 109 = .ok (.iload_n 3, 1) := by decide +kernel
theorem dX6_leastSnuff_110 : decode cX6_leastSnuff 110 = .ok (.if_icmp .lt 6, 3) := by decide +kernel
theorem dX6_leastSnuff_113 : decode cX6_leastSnuff 113 = .ok (.iload 5, 2) := by decide +kernel
theorem dX6_leastSnuff_115 : decode cX6_leastSnuff 115 = .ok (.ireturn, 1) := by decide +kernel
theorem dX6_leastSnuff_116 : decode cX6_leastSnuff 116 = .ok (.aload_n 0, 1) := by decide +kernel
theorem dX6_leastSnuff_117 : decode cX6_leastSnuff 117 = .ok (.getfield 46, 3) := by decide +kernel
theorem dX6_leastSnuff_120 : decode cX6_leastSnuff 120 = .ok (.iload_n 1, 1) := by decide +kernel
theorem dX6_leastSnuff_121 : decode cX6_leastSnuff 121 = .ok (.invokevirtual 165, 3) := by decide +kernel
theorem dX6_leastSnuff_124 : decode cX6_leastSnuff 124 = .ok (.iinc 5 1, 3) := by decide +kernel
theorem dX6_leastSnuff_127 : decode cX6_leastSnuff 127 = .ok (.goto (-64), 3) := by decide +kernel
theorem dX6_leastSnuff_130 : decode cX6_leastSnuff 130 = .ok (.ldc 203, 2) := by decide +kernel
theorem dX6_leastSnuff_132 : decode cX6_leastSnuff 132 = .ok (.ireturn, 1) := by decide +kernel
theorem dX6_whenToCome_0 : decode cX6_whenToCome 0 = .ok (.aload_n 0, 1) := by decide +kernel
theorem dX6_whenToCome_1 : decode cX6_whenToCome 1 = .ok (.iload_n 1, 1) := by decide +kernel
theorem dX6_whenToCome_2 : decode cX6_whenToCome 2 = .ok (.invokevirtual 159, 3) := by decide +kernel
theorem dX6_whenToCome_5 : decode cX6_whenToCome 5 = .ok (.ifCond .ne 22, 3) := by decide +kernel
theorem dX6_whenToCome_8 : decode cX6_whenToCome 8 = .ok (.iload_n 2, 1) := by decide +kernel
theorem dX6_whenToCome_9 : decode cX6_whenToCome 9 = .ok (.iconst 1, 1) := by decide +kernel
theorem dX6_whenToCome_10 : decode cX6_whenToCome 10 = .ok (.bipush 40, 2) := by decide +kernel
theorem dX6_whenToCome_12 : decode cX6_whenToCome 12 = .ok (.invokestatic 67, 3) := by decide +kernel
theorem dX6_whenToCome_15 : decode cX6_whenToCome 15 = .ok (.ifCond .ne 12, 3) := by decide +kernel
theorem dX6_whenToCome_18 : decode cX6_whenToCome 18 = .ok (.iload_n 3, 1) := by decide +kernel
theorem dX6_whenToCome_19 : decode cX6_whenToCome 19 = .ok (.iconst 0, 1) := by decide +kernel
theorem dX6_whenToCome_20 : decode cX6_whenToCome 20 = .ok (.iconst 1, 1) := by decide +kernel
theorem dX6_whenToCome_21 : decode cX6_whenToCome 21 = .ok (.invokestatic 67, 3) := by decide +kernel
theorem dX6_whenToCome_24 : decode cX6_whenToCome 24 = .ok (.ifCond .eq 6, 3) := by decide +kernel
theorem dX6_whenToCome_27 : decode cX6_whenToCome 27 = .ok (.ldc 71, 2) := by decide +kernel
theorem dX6_whenToCome_29 : decode cX6_whenToCome 29 = .ok (.ireturn, 1) := by decide +kernel
theorem dX6_whenToCome_30 : decode cX6_whenToCome 30 = .ok (.aload_n 0, 1) := by decide +kernel
theorem dX6_whenToCome_31 : decode cX6_whenToCome 31 = .ok (.getfield 26, 3) := by decide +kernel
theorem dX6_whenToCome_34 : decode cX6_whenToCome 34 = .ok (.iload_n 1, 1) := by decide +kernel
theorem dX6_whenToCome_35 : decode cX6_whenToCome 35 = .ok (.invokevirtual 169, 3) := by decide +kernel
theorem dX6_whenToCome_38 : decode cX6_whenToCome 38 = .ok (.ifCond .ne 6, 3) := by decide +kernel
theorem dX6_whenToCome_41 : decode cX6_whenToCome 41 = .ok (.ldc 139, 2) := by decide +kernel
theorem dX6_whenToCome_43 : decode cX6_whenToCome 43 = .ok (.ireturn, 1) := by decide +kernel
theorem dX6_whenToCome_44 : decode cX6_whenToCome 44 = .ok (.iconst 0, 1) := by decide +kernel
theorem dX6_whenToCome_45 : decode cX6_whenToCome 45 = .ok (.istore 4, 2) := by decide +kernel
theorem dX6_whenToCome_47 : decode cX6_whenToCome 47 = .ok (.iconst (-1), 1) := by decide +kernel
theorem dX6_whenToCome_48 : decode cX6_whenToCome 48 = .ok (.istore 5, 2) := by decide +kernel
theorem dX6_whenToCome_50 : decode cX6_whenToCome 50 = .ok (.aload_n 0, 1) := by decide +kernel
theorem dX6_whenToCome_51 : decode cX6_whenToCome 51 = .ok (.getfield 46, 3) := by decide +kernel
theorem dX6_whenToCome_54 : decode cX6_whenToCome 54 = .ok (.aload_n 0, 1) := by decide +kernel
theorem dX6_whenToCome_55 : decode cX6_whenToCome 55 = .ok (.getfield 26, 3) := by decide +kernel
theorem dX6_whenToCome_58 : decode cX6_whenToCome 58 = .ok (.invokevirtual 128, 3) := by decide +kernel
theorem dX6_whenToCome_61 : decode cX6_whenToCome 61 = .ok (.iconst 0, 1) := by decide +kernel
theorem dX6_whenToCome_62 : decode cX6_whenToCome 62 = .ok (.istore 6, 2) := by decide +kernel
theorem dX6_whenToCome_64 : decode cX6_whenToCome 64 = .ok (.iload 6, 2) := by decide +kernel
theorem dX6_whenToCome_66 : decode cX6_whenToCome 66 = .ok (.iload_n 2, 1) := by decide +kernel
theorem dX6_whenToCome_67 : decode cX6_whenToCome 67 = .ok (.if_icmp .ge 92, 3) := by decide +kernel
theorem dX6_whenToCome_70 : decode cX6_whenToCome 70 = .ok (.aload_n 0, 1) := by decide +kernel
theorem dX6_whenToCome_71 : decode cX6_whenToCome 71 = .ok (.getfield 43, 3) := by decide +kernel
theorem dX6_whenToCome_74 : decode cX6_whenToCome 74 = .ok (.aload_n 0, 1) := by decide +kernel
theorem dX6_whenToCome_75 : decode cX6_whenToCome 75 = .ok (.getfield 46, 3) := by decide +kernel
theorem dX6_whenToCome_78 : decode cX6_whenToCome 78 = .ok (.invokevirtual 128, 3) := by decide +kernel
theorem dX6_whenToCome_81 : decode cX6_whenToCome 81 = .ok (.aload_n 0, 1) := by decide +kernel
theorem dX6_whenToCome_82 : decode cX6_whenToCome 82 = .ok (.getfield 43, 3) := by decide +kernel
theorem dX6_whenToCome_85 : decode cX6_whenToCome 85 = .ok (.iload_n 1, 1) := by decide +kernel
theorem dX6_whenToCome_86 : decode cX6_whenToCome 86 = .ok (.aload_n 0, 1) := by decide +kernel
theorem dX6_whenToCome_87 : decode cX6_whenToCome 87 = .ok (.getfield 43, 3) := by decide +kernel
theorem dX6_whenToCome_90 : decode cX6_whenToCome 90 = .ok (.getfield 175, 3) := by decide +kernel
theorem dX6_whenToCome_93 : decode cX6_whenToCome 93 = .ok (.invokevirtual 178, 3) := by decide +kernel
theorem dX6_whenToCome_96 : decode cX6_whenToCome 96 = .ok (.aload_n 0, 1) := by decide +kernel
theorem dX6_whenToCome_97 : decode cX6_whenToCome 97 = .ok (.getfield 43, 3) := by decide +kernel
theorem dX6_whenToCome_100 : decode cX6_whenToCome 100 = .ok (.iload_n 2, 1) := by decide +kernel
theorem dX6_whenToCome_101 : decode cX6_whenToCome 101 = .ok (.iload 6, 2) := by decide +kernel
theorem dX6_whenToCome_103 : decode cX6_whenToCome 103 = .ok (.isub, 1) := by decide +kernel
theorem dX6_whenToCome_104 : decode cX6_whenToCome 104 = .ok (.invokevirtual 222, 3) := by decide +kernel
theorem dX6_whenToCome_107 : decode cX6_whenToCome 107 = .ok (.pop, 1) := by decide +kernel
theorem dX6_whenToCome_108 : decode cX6_whenToCome 108 = .ok (.aload_n 0, 1) := by decide +kernel
theorem dX6_whenToCome_109 : decode cX6_whenToCome 109 = .ok (.getfield 43, 3) := by decide +kernel
theorem dX6_whenToCome_112 : decode cX6_whenToCome 112 = .ok (.getfield 193, 3) := by decide +kernel
theorem dX6_whenToCome_115 : decode cX6_whenToCome 115 = .ok (.iload_n 1, 1) := by decide +kernel
theorem dX6_whenToCome_116 : decode cX6_whenToCome 116 = .ok (.iaload, 1) := by decide +kernel
theorem dX6_whenToCome_117 : decode cX6_whenToCome 117 = .ok (.aload_n 0, 1) := by decide +kernel
theorem dX6_whenToCome_118 : decode cX6_whenToCome 118 = .ok (.getfield 26, 3) := by decide +kernel
theorem dX6_whenToCome_121 : decode cX6_whenToCome 121 = .ok (.getfield 193, 3) := by decide +kernel
theorem dX6_whenToCome_124 : decode cX6_whenToCome 124 = .ok (.iload_n 1, 1) := by decide +kernel
theorem dX6_whenToCome_125 : decode cX6_whenToCome 125 = .ok (.iaload, 1) := by decide +kernel
theorem dX6_whenToCome_126 : decode cX6_whenToCome 126 = .ok (.isub, 1) := by decide +kernel
theorem dX6_whenToCome_127 : decode cX6_whenToCome 127 = .ok (.istore 7, 2) := by decide +kernel
theorem dX6_whenToCome_129 : decode cX6_whenToCome 129 = .ok (.iload 7, 2) := by decide +kernel
theorem dX6_whenToCome_131 : decode cX6_whenToCome 131 = .ok (.iload 5, 2) := by decide +kernel
theorem dX6_whenToCome_133 : decode cX6_whenToCome 133 = .ok (.if_icmp .le 11, 3) := by decide +kernel
theorem dX6_whenToCome_136 : decode cX6_whenToCome 136 = .ok (.iload 6, 2) := by decide +kernel
theorem dX6_whenToCome_138 : decode cX6_whenToCome 138 = .ok (.istore 4, 2) := by decide +kernel
theorem dX6_whenToCome_140 : decode cX6_whenToCome 140 = .ok (.iload 7, 2) := by decide +kernel
theorem dX6_whenToCome_142 : decode cX6_whenToCome 142 = .ok (.istore 5, 2) := by decide +kernel
theorem dX6_whenToCome_144 : decode cX6_whenToCome 144 = .ok (.aload_n 0, 1) := by decide +kernel
theorem dX6_whenToCome_145 : decode cX6_whenToCome 145 = .ok (.getfield 46, 3) := by decide +kernel
theorem dX6_whenToCome_148 : decode cX6_whenToCome 148 = .ok (.iconst 0, 1) := by decide +kernel
theorem dX6_whenToCome_149 : decode cX6_whenToCome 149 = .ok (.invokevirtual 152, 3) := by decide +kernel
theorem dX6_whenToCome_152 : decode cX6_whenToCome 152 = .ok (.pop, 1) := by decide +kernel
theorem dX6_whenToCome_153 : decode cX6_whenToCome 153 = .ok (.iinc 6 1, 3) := by decide +kernel
theorem dX6_whenToCome_156 : decode cX6_whenToCome 156 = .ok (.goto (-92), 3) := by decide +kernel
theorem dX6_whenToCome_159 : decode cX6_whenToCome 159 = .ok (.iload_n 3, 1) := by decide +kernel
theorem dX6_whenToCome_160 : decode cX6_whenToCome 160 = .ok (.ifCond .ne 8, 3) := by decide +kernel
theorem dX6_whenToCome_163 : decode cX6_whenToCome 163 = .ok (.iload 4, 2) := by decide +kernel
theorem dX6_whenToCome_165 : decode cX6_whenToCome 165 = .ok (.goto 5, 3) := by decide +kernel
theorem dX6_whenToCome_168 : decode cX6_whenToCome 168 = .ok (.iload 5, 2) := by decide +kernel
theorem dX6_whenToCome_170 : decode cX6_whenToCome 170 = .ok (.ireturn, 1) := by decide +kernel
theorem dX6_rang_0 : decode cX6_rang 0 = .ok (.aload_n 0, 1) := by decide +kernel
theorem dX6_rang_1 : decode cX6_rang 1 = .ok (.invokevirtual 143, 3) := by decide +kernel
theorem dX6_rang_4 : decode cX6_rang 4 = .ok (.ifCond .eq 6, 3) := by decide +kernel
theorem dX6_rang_7 : decode cX6_rang 7 = .ok (.ldc 139, 2) := by decide +kernel
theorem dX6_rang_9 : decode cX6_rang 9 = .ok (.ireturn, 1) := by decide +kernel
theorem dX6_rang_10 : decode cX6_rang 10 = .ok (.iload_n 1, 1) := by decide +kernel
theorem dX6_rang_11 : decode cX6_rang 11 = .ok (.invokestatic 63, 3) := by decide +kernel
theorem dX6_rang_14 : decode cX6_rang 14 = .ok (.ifCond .ne 13, 3) := by decide +kernel
theorem dX6_rang_17 : decode cX6_rang 17 = .ok (.iload_n 3, 1) := by decide +kernel
theorem dX6_rang_18 : decode cX6_rang 18 = .ok (.iconst 1, 1) := by decide +kernel
theorem dX6_rang_19 : decode cX6_rang 19 = .ok (.bipush 12, 2) := by decide +kernel
theorem dX6_rang_21 : decode cX6_rang 21 = .ok (.invokestatic 67, 3) := by decide +kernel
theorem dX6_rang_24 : decode cX6_rang 24 = .ok (.ifCond .eq 6, 3) := by decide +kernel
theorem dX6_rang_27 : decode cX6_rang 27 = .ok (.ldc 71, 2) := by decide +kernel
theorem dX6_rang_29 : decode cX6_rang 29 = .ok (.ireturn, 1) := by decide +kernel
theorem dX6_rang_30 : decode cX6_rang 30 = .ok (.aload_n 0, 1) := by decide +kernel
theorem dX6_rang_31 : decode cX6_rang 31 = .ok (.iload_n 1, 1) := by decide +kernel
theorem dX6_rang_32 : decode cX6_rang 32 = .ok (.iload_n 2, 1) := by decide +kernel
theorem dX6_rang_33 : decode cX6_rang 33 = .ok (.iload_n 3, 1) := by decide +kernel
theorem dX6_rang_34 : decode cX6_rang 34 = .ok (.invokevirtual 83, 3) := by decide +kernel
theorem dX6_rang_37 : decode cX6_rang 37 = .ok (.istore 4, 2) := by decide +kernel
theorem dX6_rang_39 : decode cX6_rang 39 = .ok (.iload 4, 2) := by decide +kernel
theorem dX6_rang_41 : decode cX6_rang 41 = .ok (.ifCond .eq 10, 3) := by decide +kernel
theorem dX6_rang_44 : decode cX6_rang 44 = .ok (.aload_n 0, 1) := by decide +kernel
theorem dX6_rang_45 : decode cX6_rang 45 = .ok (.iload 4, 2) := by decide +kernel
theorem dX6_rang_47 : decode cX6_rang 47 = .ok (.invokevirtual 72, 3) := by decide +kernel
theorem dX6_rang_50 : decode cX6_rang 50 = .ok (.ireturn, 1) := by decide +kernel
theorem dX6_rang_51 : decode cX6_rang 51 = .ok (.aload_n 0, 1) := by decide +kernel
theorem dX6_rang_52 : decode cX6_rang 52 = .ok (.getfield 43, 3) := by decide +kernel
theorem dX6_rang_55 : decode cX6_rang 55 = .ok (.aload_n 0, 1) := by decide +kernel
theorem dX6_rang_56 : decode cX6_rang 56 = .ok (.getfield 26, 3) := by decide +kernel
theorem dX6_rang_59 : decode cX6_rang 59 = .ok (.invokevirtual 128, 3) := by decide +kernel
theorem dX6_rang_62 : decode cX6_rang 62 = .ok (.aload_n 0, 1) := by decide +kernel
theorem dX6_rang_63 : decode cX6_rang 63 = .ok (.iload_n 1, 1) := by decide +kernel
theorem dX6_rang_64 : decode cX6_rang 64 = .ok (.iload_n 2, 1) := by decide +kernel
theorem dX6_rang_65 : decode cX6_rang 65 = .ok (.iload_n 3, 1) := by decide +kernel
theorem dX6_rang_66 : decode cX6_rang 66 = .ok (.invokevirtual 225, 3) := by decide +kernel
theorem dX6_rang_69 : decode cX6_rang 69 = .ok (.ifCond .eq 9, 3) := by decide +kernel
theorem dX6_rang_72 : decode cX6_rang 72 = .ok (.sipush 128, 3) := by decide +kernel
theorem dX6_rang_75 : decode cX6_rang 75 = .ok (.goto 4, 3) := by decide +kernel
theorem dX6_rang_78 : decode cX6_rang 78 = .ok (.iconst 0, 1) := by decide +kernel
theorem dX6_rang_79 : decode cX6_rang 79 = .ok (.istore 5, 2) := by decide +kernel
theorem dX6_rang_81 : decode cX6_rang 81 = .ok (.iconst 0, 1) := by decide +kernel
theorem dX6_rang_82 : decode cX6_rang 82 = .ok (.istore 6, 2) := by decide +kernel
theorem dX6_rang_84 : decode cX6_rang 84 = .ok (.iload 6, 2) := by decide +kernel
theorem dX6_rang_86 : decode cX6_rang 86 = .ok (.aload_n 0, 1) := by decide +kernel
theorem dX6_rang_87 : decode cX6_rang 87 = .ok (.getfield 26, 3) := by decide +kernel
theorem dX6_rang_90 : decode cX6_rang 90 = .ok (.getfield 133, 3) := by decide +kernel
theorem dX6_rang_93 : decode cX6_rang 93 = .ok (.if_icmp .ge 67, 3) := by decide +kernel
theorem dX6_rang_96 : decode cX6_rang 96 = .ok (.aload_n 0, 1) := by decide +kernel
theorem dX6_rang_97 : decode cX6_rang 97 = .ok (.getfield 43, 3) := by decide +kernel
theorem dX6_rang_100 : decode cX6_rang 100 = .ok (.aload_n 0, 1) := by decide +kernel
theorem dX6_rang_101 : decode cX6_rang 101 = .ok (.getfield 26, 3) := by decide +kernel
theorem dX6_rang_104 : decode cX6_rang 104 = .ok (.invokevirtual 128, 3) := by decide +kernel
theorem dX6_rang_107 : decode cX6_rang 107 = .ok (.aload_n 0, 1) := by decide +kernel
theorem dX6_rang_108 : decode cX6_rang 108 = .ok (.getfield 43, 3) := by decide +kernel
theorem dX6_rang_111 : decode cX6_rang 111 = .ok (.getfield 207, 3) := by decide +kernel
theorem dX6_rang_114 : decode cX6_rang 114 = .ok (.iload 6, 2) := by decide +kernel
theorem dX6_rang_116 : decode cX6_rang 116 = .ok (.aload_n 0, 1) := by decide +kernel
theorem dX6_rang_117 : decode cX6_rang 117 = .ok (.getfield 26, 3) := by decide +kernel
theorem dX6_rang_120 : decode cX6_rang 120 = .ok (.getfield 207, 3) := by decide +kernel
theorem dX6_rang_123 : decode cX6_rang 123 = .ok (.iload 6, 2) := by decide +kernel
theorem dX6_rang_125 : decode cX6_rang 125 = .ok (.iaload, 1) := by decide +kernel
theorem dX6_rang_126 : decode cX6_rang 126 = .ok (.bipush 24, 2) := by decide +kernel
theorem dX6_rang_128 : decode cX6_rang 128 = .ok (.iadd, 1) := by decide +kernel
theorem dX6_rang_129 : decode cX6_rang 129 = .ok (.iconst 1, 1) := by decide +kernel
theorem dX6_rang_130 : decode cX6_rang 130 = .ok (.isub, 1) := by decide +kernel
theorem dX6_rang_131 : decode cX6_rang 131 = .ok (.bipush 24, 2) := by decide +kernel
theorem dX6_rang_133 : decode cX6_rang 133 = .ok (.irem, 1) := by decide +kernel
theorem dX6_rang_134 : decode cX6_rang 134 = .ok (.iastore, 1) := by decide +kernel
theorem dX6_rang_135 : decode cX6_rang 135 = .ok (.aload_n 0, 1) := by decide +kernel
theorem dX6_rang_136 : decode cX6_rang 136 = .ok (.iload_n 1, 1) := by decide +kernel
theorem dX6_rang_137 : decode cX6_rang 137 = .ok (.iload_n 2, 1) := by decide +kernel
theorem dX6_rang_138 : decode cX6_rang 138 = .ok (.iload_n 3, 1) := by decide +kernel
theorem dX6_rang_139 : decode cX6_rang 139 = .ok (.invokevirtual 225, 3) := by decide +kernel
theorem dX6_rang_142 : decode cX6_rang 142 = .ok (.ifCond .eq 12, 3) := by decide +kernel
theorem dX6_rang_145 : decode cX6_rang 145 = .ok (.iload 5, 2) := by decide +kernel
theorem dX6_rang_147 : decode cX6_rang 147 = .ok (.iconst 1, 1) := by decide +kernel
theorem dX6_rang_148 : decode cX6_rang 148 = .ok (.iload 6, 2) := by decide +kernel
theorem dX6_rang_150 : decode cX6_rang 150 = .ok (.ishl, 1) := by decide +kernel
theorem dX6_rang_151 : decode cX6_rang 151 = .ok (.ior, 1) := by decide +kernel
theorem dX6_rang_152 : decode cX6_rang 152 = .ok (.istore 5, 2) := by decide +kernel
theorem dX6_rang_154 : decode cX6_rang 154 = .ok (.iinc 6 1, 3) := by decide +kernel
theorem dX6_rang_157 : decode cX6_rang 157 = .ok (.goto (-73), 3) := by decide +kernel
theorem dX6_rang_160 : decode cX6_rang 160 = .ok (.aload_n 0, 1) := by decide +kernel
theorem dX6_rang_161 : decode cX6_rang 161 = .ok (.iload 5, 2) := by decide +kernel
theorem dX6_rang_163 : decode cX6_rang 163 = .ok (.invokevirtual 80, 3) := by decide +kernel
theorem dX6_rang_166 : decode cX6_rang 166 = .ok (.ireturn, 1) := by decide +kernel
theorem dX6_who_0 : decode cX6_who 0 = .ok (.aload_n 0, 1) := by decide +kernel
theorem dX6_who_1 : decode cX6_who 1 = .ok (.iload_n 1, 1) := by decide +kernel
theorem dX6_who_2 : decode cX6_who 2 = .ok (.invokevirtual 159, 3) := by decide +kernel
theorem dX6_who_5 : decode cX6_who 5 = .ok (.ifCond .ne 21, 3) := by decide +kernel
theorem dX6_who_8 : decode cX6_who 8 = .ok (.iload_n 2, 1) := by decide +kernel
theorem dX6_who_9 : decode cX6_who 9 = .ok (.invokestatic 63, 3) := by decide +kernel
theorem dX6_who_12 : decode cX6_who 12 = .ok (.ifCond .ne 14, 3) := by decide +kernel
theorem dX6_who_15 : decode cX6_who 15 = .ok (.iload 4, 2) := by decide +kernel
theorem dX6_who_17 : decode cX6_who 17 = .ok (.iconst 1, 1) := by decide +kernel
theorem dX6_who_18 : decode cX6_who 18 = .ok (.bipush 12, 2) := by decide +kernel
theorem dX6_who_20 : decode cX6_who 20 = .ok (.invokestatic 67, 3) := by decide +kernel
theorem dX6_who_23 : decode cX6_who 23 = .ok (.ifCond .eq 6, 3) := by decide +kernel
theorem dX6_who_26 : decode cX6_who 26 = .ok (.ldc 71, 2) := by decide +kernel
theorem dX6_who_28 : decode cX6_who 28 = .ok (.ireturn, 1) := by decide +kernel
theorem dX6_who_29 : decode cX6_who 29 = .ok (.aload_n 0, 1) := by decide +kernel
theorem dX6_who_30 : decode cX6_who 30 = .ok (.iload_n 2, 1) := by decide +kernel
theorem dX6_who_31 : decode cX6_who 31 = .ok (.iload_n 3, 1) := by decide +kernel
theorem dX6_who_32 : decode cX6_who 32 = .ok (.iload 4, 2) := by decide +kernel
theorem dX6_who_34 : decode cX6_who 34 = .ok (.invokevirtual 83, 3) := by decide +kernel
theorem dX6_who_37 : decode cX6_who 37 = .ok (.istore 5, 2) := by decide +kernel
theorem dX6_who_39 : decode cX6_who 39 = .ok (.iload 5, 2) := by decide +kernel
theorem dX6_who_41 : decode cX6_who 41 = .ok (.ifCond .eq 10, 3) := by decide +kernel
theorem dX6_who_44 : decode cX6_who 44 = .ok (.aload_n 0, 1) := by decide +kernel
theorem dX6_who_45 : decode cX6_who 45 = .ok (.iload 5, 2) := by decide +kernel
theorem dX6_who_47 : decode cX6_who 47 = .ok (.invokevirtual 72, 3) := by decide +kernel
theorem dX6_who_50 : decode cX6_who 50 = .ok (.ireturn, 1) := by decide +kernel
theorem dX6_who_51 : decode cX6_who 51 = .ok (.iconst 0, 1) := by decide +kernel
theorem dX6_who_52 : decode cX6_who 52 = .ok (.istore 6, 2) := by decide +kernel
theorem dX6_who_54 : decode cX6_who 54 = .ok (.iconst 1, 1) := by decide +kernel
theorem dX6_who_55 : decode cX6_who 55 = .ok (.istore 7, 2) := by decide +kernel
theorem dX6_who_57 : decode cX6_who 57 = .ok (.iload 7, 2) := by decide +kernel
theorem dX6_who_59 : decode cX6_who 59 = .ok (.iconst 5, 1) := by decide +kernel
theorem dX6_who_60 : decode cX6_who 60 = .ok (.if_icmp .gt 52, 3) := by decide +kernel
theorem dX6_who_63 : decode cX6_who 63 = .ok (.aload_n 0, 1) := by decide +kernel
theorem dX6_who_64 : decode cX6_who 64 = .ok (.getfield 43, 3) := by decide +kernel
theorem dX6_who_67 : decode cX6_who 67 = .ok (.aload_n 0, 1) := by decide +kernel
theorem dX6_who_68 : decode cX6_who 68 = .ok (.getfield 26, 3) := by decide +kernel
theorem dX6_who_71 : decode cX6_who 71 = .ok (.invokevirtual 128, 3) := by decide +kernel
theorem dX6_who_74 : decode cX6_who 74 = .ok (.aload_n 0, 1) := by decide +kernel
theorem dX6_who_75 : decode cX6_who 75 = .ok (.getfield 43, 3) := by decide +kernel
theorem dX6_who_78 : decode cX6_who 78 = .ok (.getfield 230, 3) := by decide +kernel
theorem dX6_who_81 : decode cX6_who 81 = .ok (.iload_n 1, 1) := by decide +kernel
theorem dX6_who_82 : decode cX6_who 82 = .ok (.iload 7, 2) := by decide +kernel
theorem dX6_who_84 : decode cX6_who 84 = .ok (.iastore, 1) := by decide +kernel
theorem dX6_who_85 : decode cX6_who 85 = .ok (.aload_n 0, 1) := by decide +kernel
theorem dX6_who_86 : decode cX6_who 86 = .ok (.iload_n 1, 1) := by decide +kernel
theorem dX6_who_87 : decode cX6_who 87 = .ok (.iload_n 2, 1) := by decide +kernel
theorem dX6_who_88 : decode cX6_who 88 = .ok (.iload_n 3, 1) := by decide +kernel
theorem dX6_who_89 : decode cX6_who 89 = .ok (.iload 4, 2) := by decide +kernel
theorem dX6_who_91 : decode cX6_who 91 = .ok (.invokevirtual 233, 3) := by decide +kernel
theorem dX6_who_94 : decode cX6_who 94 = .ok (.ifCond .eq 12, 3) := by decide +kernel
theorem dX6_who_97 : decode cX6_who 97 = .ok (.iload 6, 2) := by decide +kernel
theorem dX6_who_99 : decode cX6_who 99 = .ok (.iconst 1, 1) := by decide +kernel
theorem dX6_who_100 : decode cX6_who 100 = .ok (.iload 7, 2) := by decide +kernel
theorem dX6_who_102 : decode cX6_who 102 = .ok (.ishl, 1) := by decide +kernel
theorem dX6_who_103 : decode cX6_who 103 = .ok (.ior, 1) := by decide +kernel
theorem dX6_who_104 : decode cX6_who 104 = .ok (.istore 6, 2) := by decide +kernel
theorem dX6_who_106 : decode cX6_who 106 = .ok (.iinc 7 1, 3) := by decide +kernel
theorem dX6_who_109 : decode cX6_who 109 = .ok (.goto (-52), 3) := by decide +kernel
theorem dX6_who_112 : decode cX6_who 112 = .ok (.aload_n 0, 1) := by decide +kernel
theorem dX6_who_113 : decode cX6_who 113 = .ok (.iload 6, 2) := by decide +kernel
theorem dX6_who_115 : decode cX6_who 115 = .ok (.invokevirtual 80, 3) := by decide +kernel
theorem dX6_who_118 : decode cX6_who 118 = .ok (.ireturn, 1) := by decide +kernel
theorem dX6_elm_0 : decode cX6_elm 0 = .ok (.aload_n 0, 1) := by decide +kernel
theorem dX6_elm_1 : decode cX6_elm 1 = .ok (.invokevirtual 143, 3) := by decide +kernel
theorem dX6_elm_4 : decode cX6_elm 4 = .ok (.ifCond .eq 6, 3) := by decide +kernel
theorem dX6_elm_7 : decode cX6_elm 7 = .ok (.ldc 139, 2) := by decide +kernel
theorem dX6_elm_9 : decode cX6_elm 9 = .ok (.ireturn, 1) := by decide +kernel
theorem dX6_elm_10 : decode cX6_elm 10 = .ok (.iload_n 1, 1) := by decide +kernel
theorem dX6_elm_11 : decode cX6_elm 11 = .ok (.iconst 1, 1) := by decide +kernel
theorem dX6_elm_12 : decode cX6_elm 12 = .ok (.bipush 60, 2) := by decide +kernel
theorem dX6_elm_14 : decode cX6_elm 14 = .ok (.invokestatic 67, 3) := by decide +kernel
theorem dX6_elm_17 : decode cX6_elm 17 = .ok (.ifCond .eq 6, 3) := by decide +kernel
theorem dX6_elm_20 : decode cX6_elm 20 = .ok (.ldc 71, 2) := by decide +kernel
theorem dX6_elm_22 : decode cX6_elm 22 = .ok (.ireturn, 1) := by decide +kernel
theorem dX6_elm_23 : decode cX6_elm 23 = .ok (.aload_n 0, 1) := by decide +kernel
theorem dX6_elm_24 : decode cX6_elm 24 = .ok (.aload_n 0, 1) := by decide +kernel
theorem dX6_elm_25 : decode cX6_elm 25 = .ok (.getfield 43, 3) := by decide +kernel
theorem dX6_elm_28 : decode cX6_elm 28 = .ok (.iload_n 1, 1) := by decide +kernel
theorem dX6_elm_29 : decode cX6_elm 29 = .ok (.invokevirtual 219, 3) := by decide +kernel
theorem dX6_elm_32 : decode cX6_elm 32 = .ok (.pop, 1) := by decide +kernel
theorem dX6_elm_33 : decode cX6_elm 33 = .ok (.aload_n 0, 1) := by decide +kernel
theorem dX6_elm_34 : decode cX6_elm 34 = .ok (.getfield 46, 3) := by decide +kernel
theorem dX6_elm_37 : decode cX6_elm 37 = .ok (.aload_n 0, 1) := by decide +kernel
theorem dX6_elm_38 : decode cX6_elm 38 = .ok (.getfield 26, 3) := by decide +kernel
theorem dX6_elm_41 : decode cX6_elm 41 = .ok (.invokevirtual 128, 3) := by decide +kernel
theorem dX6_elm_44 : decode cX6_elm 44 = .ok (.aload_n 0, 1) := by decide +kernel
theorem dX6_elm_45 : decode cX6_elm 45 = .ok (.getfield 46, 3) := by decide +kernel
theorem dX6_elm_48 : decode cX6_elm 48 = .ok (.dup, 1) := by decide +kernel
theorem dX6_elm_49 : decode cX6_elm 49 = .ok (.getfield 237, 3) := by decide +kernel
theorem dX6_elm_52 : decode cX6_elm 52 = .ok (.iconst 1, 1) := by decide +kernel
theorem dX6_elm_53 : decode cX6_elm 53 = .ok (.isub, 1) := by decide +kernel
theorem dX6_elm_54 : decode cX6_elm 54 = .ok (.putfield 237, 3) := by decide +kernel
theorem dX6_elm_57 : decode cX6_elm 57 = .ok (.aload_n 0, 1) := by decide +kernel
theorem dX6_elm_58 : decode cX6_elm 58 = .ok (.getfield 46, 3) := by decide +kernel
theorem dX6_elm_61 : decode cX6_elm 61 = .ok (.iload_n 1, 1) := by decide +kernel
theorem dX6_elm_62 : decode cX6_elm 62 = .ok (.invokevirtual 222, 3) := by decide +kernel
theorem dX6_elm_65 : decode cX6_elm 65 = .ok (.pop, 1) := by decide +kernel
theorem dX6_elm_66 : decode cX6_elm 66 = .ok (.iconst 0, 1) := by decide +kernel
theorem dX6_elm_67 : decode cX6_elm 67 = .ok (.istore_n 2, 1) := by decide +kernel
theorem dX6_elm_68 : decode cX6_elm 68 = .ok (.iconst 0, 1) := by decide +kernel
theorem dX6_elm_69 : decode cX6_elm 69 = .ok (.istore_n 3, 1) := by decide +kernel
theorem dX6_elm_70 : decode cX6_elm 70 = .ok (.iload_n 3, 1) := by decide +kernel
theorem dX6_elm_71 : decode cX6_elm 71 = .ok (.aload_n 0, 1) := by decide +kernel
theorem dX6_elm_72 : decode cX6_elm 72 = .ok (.getfield 26, 3) := by decide +kernel
theorem dX6_elm_75 : decode cX6_elm 75 = .ok (.getfield 133, 3) := by decide +kernel
theorem dX6_elm_78 : decode cX6_elm 78 = .ok (.if_icmp .ge 36, 3) := by decide +kernel
theorem dX6_elm_81 : decode cX6_elm 81 = .ok (.aload_n 0, 1) := by decide +kernel
theorem dX6_elm_82 : decode cX6_elm 82 = .ok (.getfield 46, 3) := by decide +kernel
theorem dX6_elm_85 : decode cX6_elm 85 = .ok (.getfield 193, 3) := by decide +kernel
theorem dX6_elm_88 : decode cX6_elm 88 = .ok (.iload_n 3, 1) := by decide +kernel
theorem dX6_elm_89 : decode cX6_elm 89 = .ok (.iaload, 1) := by decide +kernel
theorem dX6_elm_90 : decode cX6_elm 90 = .ok (.aload_n 0, 1) := by decide +kernel
theorem dX6_elm_91 : decode cX6_elm 91 = .ok (.getfield 43, 3) := by decide +kernel
theorem dX6_elm_94 : decode cX6_elm 94 = .ok (.getfield 193, 3) := by decide +kernel
theorem dX6_elm_97 : decode cX6_elm 97 = .ok (.iload_n 3, 1) := by decide +kernel
theorem dX6_elm_98 : decode cX6_elm 98 = .ok (.iaload, 1) := by decide +kernel
theorem dX6_elm_99 : decode cX6_elm 99 = .ok (.if_icmp .ge 9, 3) := by decide +kernel
theorem dX6_elm_102 : decode cX6_elm 102 = .ok (.iload_n 2, 1) := by decide +kernel
theorem dX6_elm_103 : decode cX6_elm 103 = .ok (.iconst 1, 1) := by decide +kernel
theorem dX6_elm_104 : decode cX6_elm 104 = .ok (.iload_n 3, 1) := by decide +kernel
theorem dX6_elm_105 : decode cX6_elm 105 = .ok (.ishl, 1) := by decide +kernel
theorem dX6_elm_106 : decode cX6_elm 106 = .ok (.ior, 1) := by decide +kernel
theorem dX6_elm_107 : decode cX6_elm 107 = .ok (.istore_n 2, 1) := by decide +kernel
theorem dX6_elm_108 : decode cX6_elm 108 = .ok (.iinc 3 1, 3) := by decide +kernel
theorem dX6_elm_111 : decode cX6_elm 111 = .ok (.goto (-41), 3) := by decide +kernel
theorem dX6_elm_114 : decode cX6_elm 114 = .ok (.iload_n 2, 1) := by decide +kernel
theorem dX6_elm_115 : decode cX6_elm 115 = .ok (.ireturn, 1) := by decide +kernel
theorem dX6_lasts_0 : decode cX6_lasts 0 = .ok (.aload_n 0, 1) := by decide +kernel
theorem dX6_lasts_1 : decode cX6_lasts 1 = .ok (.invokevirtual 143, 3) := by decide +kernel
theorem dX6_lasts_4 : decode cX6_lasts 4 = .ok (.ifCond .eq 6, 3) := by decide +kernel
theorem dX6_lasts_7 : decode cX6_lasts 7 = .ok (.ldc 139, 2) := by decide +kernel
theorem dX6_lasts_9 : decode cX6_lasts 9 = .ok (.ireturn, 1) := by decide +kernel
theorem dX6_lasts_10 : decode cX6_lasts 10 = .ok (.iconst 0, 1) := by decide +kernel
theorem dX6_lasts_11 : decode cX6_lasts 11 = .ok (.istore_n 1, 1) := by decide +kernel
theorem dX6_lasts_12 : decode cX6_lasts 12 = .ok (.iconst 0, 1) := by decide +kernel
theorem dX6_lasts_13 : decode cX6_lasts 13 = .ok (.istore_n 2, 1) := by decide +kernel
theorem dX6_lasts_14 : decode cX6_lasts 14 = .ok (.iload_n 2, 1) := by decide +kernel
theorem dX6_lasts_15 : decode cX6_lasts 15 = .ok (.bipush 24, 2) := by decide +kernel
theorem dX6_lasts_17 : decode cX6_lasts 17 = .ok (.if_icmp .ge 23, 3) := by decide +kernel
theorem dX6_lasts_20 : decode cX6_lasts 20 = .ok (.aload_n 0, 1) := by decide +kernel
theorem dX6_lasts_21 : decode cX6_lasts 21 = .ok (.getfield 26, 3) := by decide +kernel
theorem dX6_lasts_24 : decode cX6_lasts 24 = .ok (.iload_n 2, 1) := by decide +kernel
theorem dX6_lasts_25 : decode cX6_lasts 25 = .ok (.invokevirtual 216, 3) := by decide +kernel
theorem dX6_lasts_28 : decode cX6_lasts 28 = .ok (.ifCond .le 6, 3) := by decide +kernel
theorem dX6_lasts_31 : decode cX6_lasts 31 = .ok (.iinc 1 1, 3) := by decide +kernel
theorem dX6_lasts_34 : decode cX6_lasts 34 = .ok (.iinc 2 1, 3) := by decide +kernel
theorem dX6_lasts_37 : decode cX6_lasts 37 = .ok (.goto (-23), 3) := by decide +kernel
theorem dX6_lasts_40 : decode cX6_lasts 40 = .ok (.iload_n 1, 1) := by decide +kernel
theorem dX6_lasts_41 : decode cX6_lasts 41 = .ok (.ireturn, 1) := by decide +kernel
theorem dX6_wager_0 : decode cX6_wager 0 = .ok (.aload_n 0, 1) := by decide +kernel
theorem dX6_wager_1 : decode cX6_wager 1 = .ok (.iload_n 1, 1) := by decide +kernel
theorem dX6_wager_2 : decode cX6_wager 2 = .ok (.invokevirtual 159, 3) := by decide +kernel
theorem dX6_wager_5 : decode cX6_wager 5 = .ok (.ifCond .ne 26, 3) := by decide +kernel
theorem dX6_wager_8 : decode cX6_wager 8 = .ok (.aload_n 0, 1) := by decide +kernel
theorem dX6_wager_9 : decode cX6_wager 9 = .ok (.iload_n 2, 1) := by decide +kernel
theorem dX6_wager_10 : decode cX6_wager 10 = .ok (.invokevirtual 159, 3) := by decide +kernel
theorem dX6_wager_13 : decode cX6_wager 13 = .ok (.ifCond .ne 18, 3) := by decide +kernel
theorem dX6_wager_16 : decode cX6_wager 16 = .ok (.iload_n 1, 1) := by decide +kernel
theorem dX6_wager_17 : decode cX6_wager 17 = .ok (.iload_n 2, 1) := by decide +kernel
theorem dX6_wager_18 : decode cX6_wager 18 = .ok (.if_icmp .eq 13, 3) := by decide +kernel
theorem dX6_wager_21 : decode cX6_wager 21 = .ok (.iload_n 3, 1) := by decide +kernel
theorem dX6_wager_22 : decode cX6_wager 22 = .ok (.iconst 1, 1) := by decide +kernel
theorem dX6_wager_23 : decode cX6_wager 23 = .ok (.bipush 60, 2) := by decide +kernel
theorem dX6_wager_25 : decode cX6_wager 25 = .ok (.invokestatic 67, 3) := by decide +kernel
theorem dX6_wager_28 : decode cX6_wager 28 = .ok (.ifCond .eq 6, 3) := by decide +kernel
theorem dX6_wager_31 : decode cX6_wager 31 = .ok (.ldc 71, 2) := by decide +kernel
theorem dX6_wager_33 : decode cX6_wager 33 = .ok (.ireturn, 1) := by decide +kernel
theorem dX6_wager_34 : decode cX6_wager 34 = .ok (.aload_n 0, 1) := by decide +kernel
theorem dX6_wager_35 : decode cX6_wager 35 = .ok (.aload_n 0, 1) := by decide +kernel
theorem dX6_wager_36 : decode cX6_wager 36 = .ok (.getfield 43, 3) := by decide +kernel
theorem dX6_wager_39 : decode cX6_wager 39 = .ok (.iload_n 3, 1) := by decide +kernel
theorem dX6_wager_40 : decode cX6_wager 40 = .ok (.invokevirtual 219, 3) := by decide +kernel
theorem dX6_wager_43 : decode cX6_wager 43 = .ok (.pop, 1) := by decide +kernel
theorem dX6_wager_44 : decode cX6_wager 44 = .ok (.aload_n 0, 1) := by decide +kernel
theorem dX6_wager_45 : decode cX6_wager 45 = .ok (.getfield 43, 3) := by decide +kernel
theorem dX6_wager_48 : decode cX6_wager 48 = .ok (.getfield 193, 3) := by decide +kernel
theorem dX6_wager_51 : decode cX6_wager 51 = .ok (.iload_n 1, 1) := by decide +kernel
theorem dX6_wager_52 : decode cX6_wager 52 = .ok (.iaload, 1) := by decide +kernel
theorem dX6_wager_53 : decode cX6_wager 53 = .ok (.aload_n 0, 1) := by decide +kernel
theorem dX6_wager_54 : decode cX6_wager 54 = .ok (.getfield 43, 3) := by decide +kernel
theorem dX6_wager_57 : decode cX6_wager 57 = .ok (.getfield 193, 3) := by decide +kernel
theorem dX6_wager_60 : decode cX6_wager 60 = .ok (.iload_n 2, 1) := by decide +kernel
theorem dX6_wager_61 : decode cX6_wager 61 = .ok (.iaload, 1) := by decide +kernel
theorem dX6_wager_62 : decode cX6_wager 62 = .ok (.isub, 1) := by decide +kernel
theorem dX6_wager_63 : decode cX6_wager 63 = .ok (.sipush 1000, 3) := by decide +kernel
theorem dX6_wager_66 : decode cX6_wager 66 = .ok (.iadd, 1) := by decide +kernel
theorem dX6_wager_67 : decode cX6_wager 67 = .ok (.ireturn, 1) := by decide +kernel
theorem dX6_calls_0 : decode cX6_calls 0 = .ok (.aload_n 0, 1) := by decide +kernel
theorem dX6_calls_1 : decode cX6_calls 1 = .ok (.invokevirtual 143, 3) := by decide +kernel
theorem dX6_calls_4 : decode cX6_calls 4 = .ok (.ifCond .eq 6, 3) := by decide +kernel
theorem dX6_calls_7 : decode cX6_calls 7 = .ok (.ldc 139, 2) := by decide +kernel
theorem dX6_calls_9 : decode cX6_calls 9 = .ok (.ireturn, 1) := by decide +kernel
theorem dX6_calls_10 : decode cX6_calls 10 = .ok (.iload_n 1, 1) := by decide +kernel
theorem dX6_calls_11 : decode cX6_calls 11 = .ok (.iconst 1, 1) := by decide +kernel
theorem dX6_calls_12 : decode cX6_calls 12 = .ok (.bipush 60, 2) := by decide +kernel
theorem dX6_calls_14 : decode cX6_calls 14 = .ok (.invokestatic 67, 3) := by decide +kernel
theorem dX6_calls_17 : decode cX6_calls 17 = .ok (.ifCond .eq 8, 3) := by decide +kernel
theorem dX6_calls_20 : decode cX6_calls 20 = .ok (.ldc 71, 2) := by decide +kernel
theorem dX6_calls_22 : decode cX6_calls 22 = .ok (.goto 12, 3) := by decide +kernel
theorem dX6_calls_25 : decode cX6_calls 25 = .ok (.aload_n 0, 1) := by decide +kernel
theorem dX6_calls_26 : decode cX6_calls 26 = .ok (.aload_n 0, 1) := by decide +kernel
theorem dX6_calls_27 : decode cX6_calls 27 = .ok (.getfield 43, 3) := by decide +kernel
theorem dX6_calls_30 : decode cX6_calls 30 = .ok (.iload_n 1, 1) := by decide +kernel
theorem dX6_calls_31 : decode cX6_calls 31 = .ok (.invokevirtual 219, 3) := by decide +kernel
theorem dX6_calls_34 : decode cX6_calls 34 = .ok (.ireturn, 1) := by decide +kernel
theorem dX6_late_0 : decode cX6_late 0 = .ok (.aload_n 0, 1) := by decide +kernel
theorem dX6_late_1 : decode cX6_late 1 = .ok (.iload_n 1, 1) := by decide +kernel
theorem dX6_late_2 : decode cX6_late 2 = .ok (.invokevirtual 159, 3) := by decide +kernel
theorem dX6_late_5 : decode cX6_late 5 = .ok (.ifCond .ne 22, 3) := by decide +kernel
theorem dX6_late_8 : decode cX6_late 8 = .ok (.iload_n 2, 1) := by decide +kernel
theorem dX6_late_9 : decode cX6_late 9 = .ok (.iconst 0, 1) := by decide +kernel
theorem dX6_late_10 : decode cX6_late 10 = .ok (.bipush 10, 2) := by decide +kernel
theorem dX6_late_12 : decode cX6_late 12 = .ok (.invokestatic 67, 3) := by decide +kernel
theorem dX6_late_15 : decode cX6_late 15 = .ok (.ifCond .ne 12, 3) := by decide +kernel
theorem dX6_late_18 : decode cX6_late 18 = .ok (.iload_n 3, 1) := by decide +kernel
theorem dX6_late_19 : decode cX6_late 19 = .ok (.iconst 0, 1) := by decide +kernel
theorem dX6_late_20 : decode cX6_late 20 = .ok (.iconst 1, 1) := by decide +kernel
theorem dX6_late_21 : decode cX6_late 21 = .ok (.invokestatic 67, 3) := by decide +kernel
theorem dX6_late_24 : decode cX6_late 24 = .ok (.ifCond .eq 7, 3) := by decide +kernel
theorem dX6_late_27 : decode cX6_late 27 = .ok (.ldc2_w 240, 3) := by decide +kernel
theorem dX6_late_30 : decode cX6_late 30 = .ok (.lreturn, 1) := by decide +kernel
theorem dX6_late_31 : decode cX6_late 31 = .ok (.aload_n 0, 1) := by decide +kernel
theorem dX6_late_32 : decode cX6_late 32 = .ok (.getfield 26, 3) := by decide +kernel
theorem dX6_late_35 : decode cX6_late 35 = .ok (.invokevirtual 242, 3) := by decide +kernel
theorem dX6_late_38 : decode cX6_late 38 = .ok (.istore 4, 2) := by decide +kernel
theorem dX6_late_40 : decode cX6_late 40 = .ok (.aload_n 0, 1) := by decide +kernel
theorem dX6_late_41 : decode cX6_late 41 = .ok (.iload_n 1, 1) := by decide +kernel
theorem dX6_late_42 : decode cX6_late 42 = .ok (.iload_n 2, 1) := by decide +kernel
theorem dX6_late_43 : decode cX6_late 43 = .ok (.iload 4, 2) := by decide +kernel
theorem dX6_late_45 : decode cX6_late 45 = .ok (.invokevirtual 245, 3) := by decide +kernel
theorem dX6_late_48 : decode cX6_late 48 = .ok (.lstore 5, 2) := by decide +kernel
theorem dX6_late_50 : decode cX6_late 50 = .ok (.bipush 10, 2) := by decide +kernel
theorem dX6_late_52 : decode cX6_late 52 = .ok (.iload 4, 2) := by decide +kernel
theorem dX6_late_54 : decode cX6_late 54 = .ok (.invokestatic 249, 3) := by decide +kernel
theorem dX6_late_57 : decode cX6_late 57 = .ok (.invokestatic 254, 3) := by decide +kernel
theorem dX6_late_60 : decode cX6_late 60 = .ok (.lstore 7, 2) := by decide +kernel
theorem dX6_late_62 : decode cX6_late 62 = .ok (.lload 5, 2) := by decide +kernel
theorem dX6_late_64 : decode cX6_late 64 = .ok (.lload 7, 2) := by decide +kernel
theorem dX6_late_66 : decode cX6_late 66 = .ok (.invokestatic 258, 3) := by decide +kernel
theorem dX6_late_69 : decode cX6_late 69 = .ok (.lstore 9, 2) := by decide +kernel
theorem dX6_late_71 : decode cX6_late 71 = .ok (.lload 9, 2) := by decide +kernel
theorem dX6_late_73 : decode cX6_late 73 = .ok (.lconst 0, 1) := by decide +kernel
theorem dX6_late_74 : decode cX6_late 74 = .ok (.lcmp, 1) := by decide +kernel
theorem dX6_late_75 : decode cX6_late 75 = .ok (.ifCond .ne 6, 3) := by decide +kernel
theorem dX6_late_78 : decode cX6_late 78 = .ok (.iload_n 3, 1) := by decide +kernel
theorem dX6_late_79 : decode cX6_late 79 = .ok (.i2l, 1) := by decide +kernel
theorem dX6_late_80 : decode cX6_late 80 = .ok (.lreturn, 1) := by decide +kernel
theorem dX6_late_81 : decode cX6_late 81 = .ok (.iload_n 3, 1) := by decide +kernel
theorem dX6_late_82 : decode cX6_late 82 = .ok (.ifCond .ne 11, 3) := by decide +kernel
theorem dX6_late_85 : decode cX6_late 85 = .ok (.lload 5, 2) := by decide +kernel
theorem dX6_late_87 : decode cX6_late 87 = .ok (.lload 9, 2) := by decide +kernel
theorem dX6_late_89 : decode cX6_late 89 = .ok (.ldiv, 1) := by decide +kernel
theorem dX6_late_90 : decode cX6_late 90 = .ok (.goto 8, 3) := by decide +kernel
theorem dX6_late_93 : decode cX6_late 93 = .ok (.lload 7, 2) := by decide +kernel
theorem dX6_late_95 : decode cX6_late 95 = .ok (.lload 9, 2) := by decide +kernel
theorem dX6_late_97 : decode cX6_late 97 = .ok (.ldiv, 1) := by decide +kernel
theorem dX6_late_98 : decode cX6_late 98 = .ok (.lreturn, 1) := by decide +kernel
theorem dX6_drawn_0 : decode cX6_drawn 0 = .ok (.aload_n 0, 1) := by decide +kernel
theorem dX6_drawn_1 : decode cX6_drawn 1 = .ok (.invokevirtual 143, 3) := by decide +kernel
theorem dX6_drawn_4 : decode cX6_drawn 4 = .ok (.ifCond .eq 6, 3) := by decide +kernel
theorem dX6_drawn_7 : decode cX6_drawn 7 = .ok (.ldc 139, 2) := by decide +kernel
theorem dX6_drawn_9 : decode cX6_drawn 9 = .ok (.ireturn, 1) := by decide +kernel
theorem dX6_drawn_10 : decode cX6_drawn 10 = .ok (.iload_n 1, 1) := by decide +kernel
theorem dX6_drawn_11 : decode cX6_drawn 11 = .ok (.iconst 0, 1) := by decide +kernel
theorem dX6_drawn_12 : decode cX6_drawn 12 = .ok (.bipush 60, 2) := by decide +kernel
theorem dX6_drawn_14 : decode cX6_drawn 14 = .ok (.invokestatic 67, 3) := by decide +kernel
theorem dX6_drawn_17 : decode cX6_drawn 17 = .ok (.ifCond .ne 23, 3) := by decide +kernel
theorem dX6_drawn_20 : decode cX6_drawn 20 = .ok (.iload_n 2, 1) := by decide +kernel
theorem dX6_drawn_21 : decode cX6_drawn 21 = .ok (.iconst 1, 1) := by decide +kernel
theorem dX6_drawn_22 : decode cX6_drawn 22 = .ok (.ldc_w 262, 3) := by decide +kernel
theorem dX6_drawn_25 : decode cX6_drawn 25 = .ok (.invokestatic 67, 3) := by decide +kernel
theorem dX6_drawn_28 : decode cX6_drawn 28 = .ok (.ifCond .ne 12, 3) := by decide +kernel
theorem dX6_drawn_31 : decode cX6_drawn 31 = .ok (.iload_n 3, 1) := by decide +kernel
theorem dX6_drawn_32 : decode cX6_drawn 32 = .ok (.iconst 0, 1) := by decide +kernel
theorem dX6_drawn_33 : decode cX6_drawn 33 = .ok (.iconst 1, 1) := by decide +kernel
theorem dX6_drawn_34 : decode cX6_drawn 34 = .ok (.invokestatic 67, 3) := by decide +kernel
theorem dX6_drawn_37 : decode cX6_drawn 37 = .ok (.ifCond .eq 6, 3) := by decide +kernel
theorem dX6_drawn_40 : decode cX6_drawn 40 = .ok (.ldc 71, 2) := by decide +kernel
theorem dX6_drawn_42 : decode cX6_drawn 42 = .ok (.ireturn, 1) := by decide +kernel
theorem dX6_drawn_43 : decode cX6_drawn 43 = .ok (.aload_n 0, 1) := by decide +kernel
theorem dX6_drawn_44 : decode cX6_drawn 44 = .ok (.getfield 43, 3) := by decide +kernel
theorem dX6_drawn_47 : decode cX6_drawn 47 = .ok (.aload_n 0, 1) := by decide +kernel
theorem dX6_drawn_48 : decode cX6_drawn 48 = .ok (.getfield 26, 3) := by decide +kernel
theorem dX6_drawn_51 : decode cX6_drawn 51 = .ok (.invokevirtual 128, 3) := by decide +kernel
theorem dX6_drawn_54 : decode cX6_drawn 54 = .ok (.iload_n 2, 1) := by decide +kernel
theorem dX6_drawn_55 : decode cX6_drawn 55 = .ok (.i2l, 1) := by decide +kernel
theorem dX6_drawn_56 : decode cX6_drawn 56 = .ok (.lstore 4, 2) := by decide +kernel
theorem dX6_drawn_58 : decode cX6_drawn 58 = .ok (.iconst 0, 1) := by decide +kernel
theorem dX6_drawn_59 : decode cX6_drawn 59 = .ok (.istore 6, 2) := by decide +kernel
theorem dX6_drawn_61 : decode cX6_drawn 61 = .ok (.iload 6, 2) := by decide +kernel
theorem dX6_drawn_63 : decode cX6_drawn 63 = .ok (.iload_n 1, 1) := by decide +kernel
theorem dX6_drawn_64 : decode cX6_drawn 64 = .ok (.if_icmp .ge 65, 3) := by decide +kernel
theorem dX6_drawn_67 : decode cX6_drawn 67 = .ok (.lload 4, 2) := by decide +kernel
theorem dX6_drawn_69 : decode cX6_drawn 69 = .ok (.ldc2_w 263, 3) := by decide +kernel
theorem dX6_drawn_72 : decode cX6_drawn 72 = .ok (.lmul, 1) := by decide +kernel
theorem dX6_drawn_73 : decode cX6_drawn 73 = .ok (.ldc2_w 265, 3) := by decide +kernel
theorem dX6_drawn_76 : decode cX6_drawn 76 = .ok (.lrem, 1) := by decide +kernel
theorem dX6_drawn_77 : decode cX6_drawn 77 = .ok (.lstore 4, 2) := by decide +kernel
theorem dX6_drawn_79 : decode cX6_drawn 79 = .ok (.lload 4, 2) := by decide +kernel
theorem dX6_drawn_81 : decode cX6_drawn 81 = .ok (.aload_n 0, 1) := by decide +kernel
theorem dX6_drawn_82 : decode cX6_drawn 82 = .ok (.getfield 26, 3) := by decide +kernel
theorem dX6_drawn_85 : decode cX6_drawn 85 = .ok (.getfield 133, 3) := by decide +kernel
theorem dX6_drawn_88 : decode cX6_drawn 88 = .ok (.i2l, 1) := by decide +kernel
theorem dX6_drawn_89 : decode cX6_drawn 89 = .ok (.lrem, 1) := by decide +kernel
theorem dX6_drawn_90 : decode cX6_drawn 90 = .ok (.l2i, 1) := by decide +kernel
theorem dX6_drawn_91 : decode cX6_drawn 91 = .ok (.istore 7, 2) := by decide +kernel
theorem dX6_drawn_93 : decode cX6_drawn 93 = .ok (.aload_n 0, 1) := by decide +kernel
theorem dX6_drawn_94 : decode cX6_drawn 94 = .ok (.getfield 43, 3) := by decide +kernel
theorem dX6_drawn_97 : decode cX6_drawn 97 = .ok (.iload 7, 2) := by decide +kernel
theorem dX6_drawn_99 : decode cX6_drawn 99 = .ok (.invokevirtual 162, 3) := by decide +kernel
theorem dX6_drawn_102 : decode cX6_drawn 102 = .ok (.ifCond .le 12, 3) := by decide +kernel
theorem dX6_drawn_105 : decode cX6_drawn 105 = .ok (.aload_n 0, 1) := by decide +kernel
theorem dX6_drawn_106 : decode cX6_drawn 106 = .ok (.getfield 43, 3) := by decide +kernel
theorem dX6_drawn_109 : decode cX6_drawn 109 = .ok (.iload 7, 2) := by decide +kernel
theorem dX6_drawn_111 : decode cX6_drawn 111 = .ok (.invokevirtual 165, 3) := by decide +kernel
theorem dX6_drawn_114 : decode cX6_drawn 114 = .ok (.aload_n 0, 1) := by decide +kernel
theorem dX6_drawn_115 : decode cX6_drawn 115 = .ok (.getfield 43, 3) := by decide +kernel
theorem dX6_drawn_118 : decode cX6_drawn 118 = .ok (.iconst 0, 1) := by decide +kernel
theorem dX6_drawn_119 : decode cX6_drawn 119 = .ok (.invokevirtual 152, 3) := by decide +kernel
theorem dX6_drawn_122 : decode cX6_drawn 122 = .ok (.pop, 1) := by decide +kernel
theorem dX6_drawn_123 : decode cX6_drawn 123 = .ok (.iinc 6 1, 3) := by decide +kernel
theorem dX6_drawn_126 : decode cX6_drawn 126 = .ok (.goto (-65), 3) := by decide +kernel
theorem dX6_drawn_129 : decode cX6_drawn 129 = .ok (.iload_n 3, 1) := by decide +kernel
theorem dX6_drawn_130 : decode cX6_drawn 130 = .ok (.ifCond .ne 21, 3) := by decide +kernel
theorem dX6_drawn_133 : decode cX6_drawn 133 = .ok (.aload_n 0, 1) := by decide +kernel
theorem dX6_drawn_134 : decode cX6_drawn 134 = .ok (.getfield 43, 3) := by decide +kernel
theorem dX6_drawn_137 : decode cX6_drawn 137 = .ok (.getfield 267, 3) := by decide +kernel
theorem dX6_drawn_140 : decode cX6_drawn 140 = .ok (.aload_n 0, 1) := by decide +kernel
theorem dX6_drawn_141 : decode cX6_drawn 141 = .ok (.getfield 26, 3) := by decide +kernel
theorem dX6_drawn_144 : decode cX6_drawn 144 = .ok (.getfield 267, 3) := by decide +kernel
theorem dX6_drawn_147 : decode cX6_drawn 147 = .ok (.isub, 1) := by decide +kernel
theorem dX6_drawn_148 : decode cX6_drawn 148 = .ok (.goto 10, 3) := by decide +kernel
theorem dX6_drawn_151 : decode cX6_drawn 151 = .ok (.aload_n 0, 1) := by decide +kernel
theorem dX6_drawn_152 : decode cX6_drawn 152 = .ok (.getfield 43, 3) := by decide +kernel
theorem dX6_drawn_155 : decode cX6_drawn 155 = .ok (.invokevirtual 270, 3) := by decide +kernel
theorem dX6_drawn_158 : decode cX6_drawn 158 = .ok (.ireturn, 1) := by decide +kernel
theorem dX6_image_0 : decode cX6_image 0 = .ok (.iload_n 1, 1) := by decide +kernel
theorem dX6_image_1 : decode cX6_image 1 = .ok (.iconst 0, 1) := by decide +kernel
theorem dX6_image_2 : decode cX6_image 2 = .ok (.iconst 1, 1) := by decide +kernel
theorem dX6_image_3 : decode cX6_image 3 = .ok (.invokestatic 67, 3) := by decide +kernel
theorem dX6_image_6 : decode cX6_image 6 = .ok (.ifCond .eq 6, 3) := by decide +kernel
theorem dX6_image_9 : decode cX6_image 9 = .ok (.ldc 71, 2) := by decide +kernel
theorem dX6_image_11 : decode cX6_image 11 = .ok (.ireturn, 1) := by decide +kernel
theorem dX6_image_12 : decode cX6_image 12 = .ok (.aload_n 0, 1) := by decide +kernel
theorem dX6_image_13 : decode cX6_image 13 = .ok (.invokevirtual 143, 3) := by decide +kernel
theorem dX6_image_16 : decode cX6_image 16 = .ok (.ifCond .eq 6, 3) := by decide +kernel
theorem dX6_image_19 : decode cX6_image 19 = .ok (.ldc 139, 2) := by decide +kernel
theorem dX6_image_21 : decode cX6_image 21 = .ok (.ireturn, 1) := by decide +kernel
theorem dX6_image_22 : decode cX6_image 22 = .ok (.aload_n 0, 1) := by decide +kernel
theorem dX6_image_23 : decode cX6_image 23 = .ok (.iload_n 1, 1) := by decide +kernel
theorem dX6_image_24 : decode cX6_image 24 = .ok (.invokevirtual 273, 3) := by decide +kernel
theorem dX6_image_27 : decode cX6_image 27 = .ok (.aload_n 0, 1) := by decide +kernel
theorem dX6_image_28 : decode cX6_image 28 = .ok (.getfield 26, 3) := by decide +kernel
theorem dX6_image_31 : decode cX6_image 31 = .ok (.invokevirtual 128, 3) := by decide +kernel
theorem dX6_image_34 : decode cX6_image 34 = .ok (.iconst 1, 1) := by decide +kernel
theorem dX6_image_35 : decode cX6_image 35 = .ok (.ireturn, 1) := by decide +kernel
theorem dX6_restore_0 : decode cX6_restore 0 = .ok (.iload_n 1, 1) := by decide +kernel
theorem dX6_restore_1 : decode cX6_restore 1 = .ok (.iconst 0, 1) := by decide +kernel
theorem dX6_restore_2 : decode cX6_restore 2 = .ok (.iconst 1, 1) := by decide +kernel
theorem dX6_restore_3 : decode cX6_restore 3 = .ok (.invokestatic 67, 3) := by decide +kernel
theorem dX6_restore_6 : decode cX6_restore 6 = .ok (.ifCond .eq 6, 3) := by decide +kernel
theorem dX6_restore_9 : decode cX6_restore 9 = .ok (.ldc 71, 2) := by decide +kernel
theorem dX6_restore_11 : decode cX6_restore 11 = .ok (.ireturn, 1) := by decide +kernel
theorem dX6_restore_12 : decode cX6_restore 12 = .ok (.aload_n 0, 1) := by decide +kernel
theorem dX6_restore_13 : decode cX6_restore 13 = .ok (.iload_n 1, 1) := by decide +kernel
theorem dX6_restore_14 : decode cX6_restore 14 = .ok (.invokevirtual 273, 3) := by decide +kernel
theorem dX6_restore_17 : decode cX6_restore 17 = .ok (.getfield 133, 3) := by decide +kernel
theorem dX6_restore_20 : decode cX6_restore 20 = .ok (.ifCond .ne 6, 3) := by decide +kernel
theorem dX6_restore_23 : decode cX6_restore 23 = .ok (.ldc 139, 2) := by decide +kernel
theorem dX6_restore_25 : decode cX6_restore 25 = .ok (.ireturn, 1) := by decide +kernel
theorem dX6_restore_26 : decode cX6_restore 26 = .ok (.aload_n 0, 1) := by decide +kernel
theorem dX6_restore_27 : decode cX6_restore 27 = .ok (.getfield 26, 3) := by decide +kernel
theorem dX6_restore_30 : decode cX6_restore 30 = .ok (.aload_n 0, 1) := by decide +kernel
theorem dX6_restore_31 : decode cX6_restore 31 = .ok (.iload_n 1, 1) := by decide +kernel
theorem dX6_restore_32 : decode cX6_restore 32 = .ok (.invokevirtual 273, 3) := by decide +kernel
theorem dX6_restore_35 : decode cX6_restore 35 = .ok (.invokevirtual 128, 3) := by decide +kernel
theorem dX6_restore_38 : decode cX6_restore 38 = .ok (.aload_n 0, 1) := by decide +kernel
theorem dX6_restore_39 : decode cX6_restore 39 = .ok (.getfield 33, 3) := by decide +kernel
theorem dX6_restore_42 : decode cX6_restore 42 = .ok (.invokevirtual 132, 3) := by decide +kernel
theorem dX6_restore_45 : decode cX6_restore 45 = .ok (.iconst 1, 1) := by decide +kernel
theorem dX6_restore_46 : decode cX6_restore 46 = .ok (.ireturn, 1) := by decide +kernel
theorem dX6_kind_0 : decode cX6_kind 0 = .ok (.aload_n 0, 1) := by decide +kernel
theorem dX6_kind_1 : decode cX6_kind 1 = .ok (.iload_n 1, 1) := by decide +kernel
theorem dX6_kind_2 : decode cX6_kind 2 = .ok (.invokevirtual 159, 3) := by decide +kernel
theorem dX6_kind_5 : decode cX6_kind 5 = .ok (.ifCond .eq 8, 3) := by decide +kernel
theorem dX6_kind_8 : decode cX6_kind 8 = .ok (.ldc 71, 2) := by decide +kernel
theorem dX6_kind_10 : decode cX6_kind 10 = .ok (.goto 12, 3) := by decide +kernel
theorem dX6_kind_13 : decode cX6_kind 13 = .ok (.aload_n 0, 1) := by decide +kernel
theorem dX6_kind_14 : decode cX6_kind 14 = .ok (.getfield 26, 3) := by decide +kernel
theorem dX6_kind_17 : decode cX6_kind 17 = .ok (.getfield 230, 3) := by decide +kernel
theorem dX6_kind_20 : decode cX6_kind 20 = .ok (.iload_n 1, 1) := by decide +kernel
theorem dX6_kind_21 : decode cX6_kind 21 = .ok (.iaload, 1) := by decide +kernel
theorem dX6_kind_22 : decode cX6_kind 22 = .ok (.ireturn, 1) := by decide +kernel
theorem dX6_as_0 : decode cX6_as 0 = .ok (.aload_n 0, 1) := by decide +kernel
theorem dX6_as_1 : decode cX6_as 1 = .ok (.iload_n 1, 1) := by decide +kernel
theorem dX6_as_2 : decode cX6_as 2 = .ok (.invokevirtual 159, 3) := by decide +kernel
theorem dX6_as_5 : decode cX6_as 5 = .ok (.ifCond .ne 12, 3) := by decide +kernel
theorem dX6_as_8 : decode cX6_as 8 = .ok (.iload_n 2, 1) := by decide +kernel
theorem dX6_as_9 : decode cX6_as 9 = .ok (.iconst 0, 1) := by decide +kernel
theorem dX6_as_10 : decode cX6_as 10 = .ok (.iconst 5, 1) := by decide +kernel
theorem dX6_as_11 : decode cX6_as 11 = .ok (.invokestatic 67, 3) := by decide +kernel
theorem dX6_as_14 : decode cX6_as 14 = .ok (.ifCond .eq 6, 3) := by decide +kernel
theorem dX6_as_17 : decode cX6_as 17 = .ok (.ldc 71, 2) := by decide +kernel
theorem dX6_as_19 : decode cX6_as 19 = .ok (.ireturn, 1) := by decide +kernel
theorem dX6_as_20 : decode cX6_as 20 = .ok (.aload_n 0, 1) := by decide +kernel
theorem dX6_as_21 : decode cX6_as 21 = .ok (.getfield 26, 3) := by decide +kernel
theorem dX6_as_24 : decode cX6_as 24 = .ok (.getfield 230, 3) := by decide +kernel
theorem dX6_as_27 : decode cX6_as 27 = .ok (.iload_n 1, 1) := by decide +kernel
theorem dX6_as_28 : decode cX6_as 28 = .ok (.iaload, 1) := by decide +kernel
theorem dX6_as_29 : decode cX6_as 29 = .ok (.iload_n 2, 1) := by decide +kernel
theorem dX6_as_30 : decode cX6_as 30 = .ok (.invokestatic 277, 3) := by decide +kernel
theorem dX6_as_33 : decode cX6_as 33 = .ok (.ifCond .eq 11, 3) := by decide +kernel
theorem dX6_as_36 : decode cX6_as 36 = .ok (.aload_n 0, 1) := by decide +kernel
theorem dX6_as_37 : decode cX6_as 37 = .ok (.iload_n 1, 1) := by decide +kernel
theorem dX6_as_38 : decode cX6_as 38 = .ok (.invokevirtual 80, 3) := by decide +kernel
theorem dX6_as_41 : decode cX6_as 41 = .ok (.goto 8, 3) := by decide +kernel
theorem dX6_as_44 : decode cX6_as 44 = .ok (.aload_n 0, 1) := by decide +kernel
theorem dX6_as_45 : decode cX6_as 45 = .ok (.iconst 3, 1) := by decide +kernel
theorem dX6_as_46 : decode cX6_as 46 = .ok (.invokevirtual 72, 3) := by decide +kernel
theorem dX6_as_49 : decode cX6_as 49 = .ok (.ireturn, 1) := by decide +kernel
theorem dX6_ask_0 : decode cX6_ask 0 = .ok (.aload_n 0, 1) := by decide +kernel
theorem dX6_ask_1 : decode cX6_ask 1 = .ok (.iload_n 1, 1) := by decide +kernel
theorem dX6_ask_2 : decode cX6_ask 2 = .ok (.invokevirtual 159, 3) := by decide +kernel
theorem dX6_ask_5 : decode cX6_ask 5 = .ok (.ifCond .ne 12, 3) := by decide +kernel
theorem dX6_ask_8 : decode cX6_ask 8 = .ok (.iload_n 2, 1) := by decide +kernel
theorem dX6_ask_9 : decode cX6_ask 9 = .ok (.iconst 0, 1) := by decide +kernel
theorem dX6_ask_10 : decode cX6_ask 10 = .ok (.iconst 1, 1) := by decide +kernel
theorem dX6_ask_11 : decode cX6_ask 11 = .ok (.invokestatic 67, 3) := by decide +kernel
theorem dX6_ask_14 : decode cX6_ask 14 = .ok (.ifCond .eq 6, 3) := by decide +kernel
theorem dX6_ask_17 : decode cX6_ask 17 = .ok (.ldc 71, 2) := by decide +kernel
theorem dX6_ask_19 : decode cX6_ask 19 = .ok (.ireturn, 1) := by decide +kernel
theorem dX6_ask_20 : decode cX6_ask 20 = .ok (.aload_n 0, 1) := by decide +kernel
theorem dX6_ask_21 : decode cX6_ask 21 = .ok (.getfield 52, 3) := by decide +kernel
theorem dX6_ask_24 : decode cX6_ask 24 = .ok (.aload_n 0, 1) := by decide +kernel
theorem dX6_ask_25 : decode cX6_ask 25 = .ok (.getfield 26, 3) := by decide +kernel
theorem dX6_ask_28 : decode cX6_ask 28 = .ok (.iload_n 1, 1) := by decide +kernel
theorem dX6_ask_29 : decode cX6_ask 29 = .ok (.iload_n 2, 1) := by decide +kernel
theorem dX6_ask_30 : decode cX6_ask 30 = .ok (.invokevirtual 281, 3) := by decide +kernel
theorem dX6_ask_33 : decode cX6_ask 33 = .ok (.ireturn, 1) := by decide +kernel
theorem dX6_trace_0 : decode cX6_trace 0 = .ok (.iload_n 1, 1) := by decide +kernel
theorem dX6_trace_1 : decode cX6_trace 1 = .ok (.iconst 0, 1) := by decide +kernel
theorem dX6_trace_2 : decode cX6_trace 2 = .ok (.aload_n 0, 1) := by decide +kernel
theorem dX6_trace_3 : decode cX6_trace 3 = .ok (.getfield 52, 3) := by decide +kernel
theorem dX6_trace_6 : decode cX6_trace 6 = .ok (.getfield 285, 3) := by decide +kernel
theorem dX6_trace_9 : decode cX6_trace 9 = .ok (.iconst 1, 1) := by decide +kernel
theorem dX6_trace_10 : decode cX6_trace 10 = .ok (.isub, 1) := by decide +kernel
theorem dX6_trace_11 : decode cX6_trace 11 = .ok (.invokestatic 67, 3) := by decide +kernel
theorem dX6_trace_14 : decode cX6_trace 14 = .ok (.ifCond .eq 8, 3) := by decide +kernel
theorem dX6_trace_17 : decode cX6_trace 17 = .ok (.ldc 203, 2) := by decide +kernel
theorem dX6_trace_19 : decode cX6_trace 19 = .ok (.goto 12, 3) := by decide +kernel
theorem dX6_trace_22 : decode cX6_trace 22 = .ok (.aload_n 0, 1) := by decide +kernel
theorem dX6_trace_23 : decode cX6_trace 23 = .ok (.getfield 52, 3) := by decide +kernel
theorem dX6_trace_26 : decode cX6_trace 26 = .ok (.getfield 288, 3) := by decide +kernel
theorem dX6_trace_29 : decode cX6_trace 29 = .ok (.iload_n 1, 1) := by decide +kernel
theorem dX6_trace_30 : decode cX6_trace 30 = .ok (.iaload, 1) := by decide +kernel
theorem dX6_trace_31 : decode cX6_trace 31 = .ok (.ireturn, 1) := by decide +kernel
theorem dX6_count_0 : decode cX6_count 0 = .ok (.iload_n 1, 1) := by decide +kernel
theorem dX6_count_1 : decode cX6_count 1 = .ok (.tableswitch 119 0 7 #[47, 55, 63, 71, 79, 87, 103, 111], 47) := by decide +kernel
theorem dX6_count_48 : decode cX6_count 48 = .ok (.aload_n 0, 1) := by decide +kernel
theorem dX6_count_49 : decode cX6_count 49 = .ok (.getfield 10, 3) := by decide +kernel
theorem dX6_count_52 : decode cX6_count 52 = .ok (.invokevirtual 291, 3) := by decide +kernel
theorem dX6_count_55 : decode cX6_count 55 = .ok (.ireturn, 1) := by decide +kernel
theorem dX6_count_56 : decode cX6_count 56 = .ok (.aload_n 0, 1) := by decide +kernel
theorem dX6_count_57 : decode cX6_count 57 = .ok (.getfield 26, 3) := by decide +kernel
theorem dX6_count_60 : decode cX6_count 60 = .ok (.getfield 133, 3) := by decide +kernel
theorem dX6_count_63 : decode cX6_count 63 = .ok (.ireturn, 1) := by decide +kernel
theorem dX6_count_64 : decode cX6_count 64 = .ok (.aload_n 0, 1) := by decide +kernel
theorem dX6_count_65 : decode cX6_count 65 = .ok (.getfield 26, 3) := by decide +kernel
theorem dX6_count_68 : decode cX6_count 68 = .ok (.invokevirtual 155, 3) := by decide +kernel
theorem dX6_count_71 : decode cX6_count 71 = .ok (.ireturn, 1) := by decide +kernel
theorem dX6_count_72 : decode cX6_count 72 = .ok (.aload_n 0, 1) := by decide +kernel
theorem dX6_count_73 : decode cX6_count 73 = .ok (.getfield 26, 3) := by decide +kernel
theorem dX6_count_76 : decode cX6_count 76 = .ok (.getfield 146, 3) := by decide +kernel
theorem dX6_count_79 : decode cX6_count 79 = .ok (.ireturn, 1) := by decide +kernel
theorem dX6_count_80 : decode cX6_count 80 = .ok (.aload_n 0, 1) := by decide +kernel
theorem dX6_count_81 : decode cX6_count 81 = .ok (.getfield 26, 3) := by decide +kernel
theorem dX6_count_84 : decode cX6_count 84 = .ok (.getfield 267, 3) := by decide +kernel
theorem dX6_count_87 : decode cX6_count 87 = .ok (.ireturn, 1) := by decide +kernel
theorem dX6_count_88 : decode cX6_count 88 = .ok (.aload_n 0, 1) := by decide +kernel
theorem dX6_count_89 : decode cX6_count 89 = .ok (.getfield 26, 3) := by decide +kernel
theorem dX6_count_92 : decode cX6_count 92 = .ok (.getfield 182, 3) := by decide +kernel
theorem dX6_count_95 : decode cX6_count 95 = .ok (.ifCond .eq 7, 3) := by decide +kernel
theorem dX6_count_98 : decode cX6_count 98 = .ok (.iconst 1, 1) := by decide +kernel
theorem dX6_count_99 : decode cX6_count 99 = .ok (.goto 4, 3) := by decide +kernel
theorem dX6_count_102 : decode cX6_count 102 = .ok (.iconst 0, 1) := by decide +kernel
theorem dX6_count_103 : decode cX6_count 103 = .ok (.ireturn, 1) := by decide +kernel
theorem dX6_count_104 : decode cX6_count 104 = .ok (.aload_n 0, 1) := by decide +kernel
theorem dX6_count_105 : decode cX6_count 105 = .ok (.getfield 33, 3) := by decide +kernel
theorem dX6_count_108 : decode cX6_count 108 = .ok (.getfield 136, 3) := by decide +kernel
theorem dX6_count_111 : decode cX6_count 111 = .ok (.ireturn, 1) := by decide +kernel
theorem dX6_count_112 : decode cX6_count 112 = .ok (.aload_n 0, 1) := by decide +kernel
theorem dX6_count_113 : decode cX6_count 113 = .ok (.getfield 19, 3) := by decide +kernel
theorem dX6_count_116 : decode cX6_count 116 = .ok (.getfield 294, 3) := by decide +kernel
theorem dX6_count_119 : decode cX6_count 119 = .ok (.ireturn, 1) := by decide +kernel
theorem dX6_count_120 : decode cX6_count 120 = .ok (.ldc 71, 2) := by decide +kernel
theorem dX6_count_122 : decode cX6_count 122 = .ok (.ireturn, 1) := by decide +kernel
theorem dX6_status_0 : decode cX6_status 0 = .ok (.aload_n 0, 1) := by decide +kernel
theorem dX6_status_1 : decode cX6_status 1 = .ok (.getfield 60, 3) := by decide +kernel
theorem dX6_status_4 : decode cX6_status 4 = .ok (.ireturn, 1) := by decide +kernel
theorem dX6_outside_0 : decode cX6_outside 0 = .ok (.iload_n 0, 1) := by decide +kernel
theorem dX6_outside_1 : decode cX6_outside 1 = .ok (.iload_n 1, 1) := by decide +kernel
theorem dX6_outside_2 : decode cX6_outside 2 = .ok (.if_icmp .lt 8, 3) := by decide +kernel
theorem dX6_outside_5 : decode cX6_outside 5 = .ok (.iload_n 0, 1) := by decide +kernel
theorem dX6_outside_6 : decode cX6_outside 6 = .ok (.iload_n 2, 1) := by decide +kernel
theorem dX6_outside_7 : decode cX6_outside 7 = .ok (.if_icmp .le 7, 3) := by decide +kernel
theorem dX6_outside_10 : decode cX6_outside 10 = .ok (.iconst 1, 1) := by decide +kernel
theorem dX6_outside_11 : decode cX6_outside 11 = .ok (.goto 4, 3) := by decide +kernel
theorem dX6_outside_14 : decode cX6_outside 14 = .ok (.iconst 0, 1) := by decide +kernel
theorem dX6_outside_15 : decode cX6_outside 15 = .ok (.ireturn, 1) := by decide +kernel
theorem dX6_noRow_0 : decode cX6_noRow 0 = .ok (.iload_n 0, 1) := by decide +kernel
theorem dX6_noRow_1 : decode cX6_noRow 1 = .ok (.iconst 0, 1) := by decide +kernel
theorem dX6_noRow_2 : decode cX6_noRow 2 = .ok (.bipush 7, 2) := by decide +kernel
theorem dX6_noRow_4 : decode cX6_noRow 4 = .ok (.invokestatic 67, 3) := by decide +kernel
theorem dX6_noRow_7 : decode cX6_noRow 7 = .ok (.ireturn, 1) := by decide +kernel
theorem dX6_noBench_0 : decode cX6_noBench 0 = .ok (.aload_n 0, 1) := by decide +kernel
theorem dX6_noBench_1 : decode cX6_noBench 1 = .ok (.getfield 26, 3) := by decide +kernel
theorem dX6_noBench_4 : decode cX6_noBench 4 = .ok (.getfield 133, 3) := by decide +kernel
theorem dX6_noBench_7 : decode cX6_noBench 7 = .ok (.ifCond .ne 7, 3) := by decide +kernel
theorem dX6_noBench_10 : decode cX6_noBench 10 = .ok (.iconst 1, 1) := by decide +kernel
theorem dX6_noBench_11 : decode cX6_noBench 11 = .ok (.goto 4, 3) := by decide +kernel
theorem dX6_noBench_14 : decode cX6_noBench 14 = .ok (.iconst 0, 1) := by decide +kernel
theorem dX6_noBench_15 : decode cX6_noBench 15 = .ok (.ireturn, 1) := by decide +kernel
theorem dX6_noMan_0 : decode cX6_noMan 0 = .ok (.iload_n 1, 1) := by decide +kernel
theorem dX6_noMan_1 : decode cX6_noMan 1 = .ok (.iconst 0, 1) := by decide +kernel
theorem dX6_noMan_2 : decode cX6_noMan 2 = .ok (.aload_n 0, 1) := by decide +kernel
theorem dX6_noMan_3 : decode cX6_noMan 3 = .ok (.getfield 26, 3) := by decide +kernel
theorem dX6_noMan_6 : decode cX6_noMan 6 = .ok (.getfield 133, 3) := by decide +kernel
theorem dX6_noMan_9 : decode cX6_noMan 9 = .ok (.iconst 1, 1) := by decide +kernel
theorem dX6_noMan_10 : decode cX6_noMan 10 = .ok (.isub, 1) := by decide +kernel
theorem dX6_noMan_11 : decode cX6_noMan 11 = .ok (.invokestatic 67, 3) := by decide +kernel
theorem dX6_noMan_14 : decode cX6_noMan 14 = .ok (.ireturn, 1) := by decide +kernel
theorem dX6_finding_0 : decode cX6_finding 0 = .ok (.aload_n 0, 1) := by decide +kernel
theorem dX6_finding_1 : decode cX6_finding 1 = .ok (.iload_n 1, 1) := by decide +kernel
theorem dX6_finding_2 : decode cX6_finding 2 = .ok (.putfield 60, 3) := by decide +kernel
theorem dX6_finding_5 : decode cX6_finding 5 = .ok (.ldc_w 297, 3) := by decide +kernel
theorem dX6_finding_8 : decode cX6_finding 8 = .ok (.iload_n 1, 1) := by decide +kernel
theorem dX6_finding_9 : decode cX6_finding 9 = .ok (.isub, 1) := by decide +kernel
theorem dX6_finding_10 : decode cX6_finding 10 = .ok (.ireturn, 1) := by decide +kernel
theorem dX6_noFinding_0 : decode cX6_noFinding 0 = .ok (.aload_n 0, 1) := by decide +kernel
theorem dX6_noFinding_1 : decode cX6_noFinding 1 = .ok (.iconst 0, 1) := by decide +kernel
theorem dX6_noFinding_2 : decode cX6_noFinding 2 = .ok (.putfield 60, 3) := by decide +kernel
theorem dX6_noFinding_5 : decode cX6_noFinding 5 = .ok (.iload_n 1, 1) := by decide +kernel
theorem dX6_noFinding_6 : decode cX6_noFinding 6 = .ok (.ireturn, 1) := by decide +kernel
theorem dX6_findingOf_0 : decode cX6_findingOf 0 = .ok (.aload_n 0, 1) := by decide +kernel
theorem dX6_findingOf_1 : decode cX6_findingOf 1 = .ok (.getfield 10, 3) := by decide +kernel
theorem dX6_findingOf_4 : decode cX6_findingOf 4 = .ok (.iload_n 1, 1) := by decide +kernel
theorem dX6_findingOf_5 : decode cX6_findingOf 5 = .ok (.invokevirtual 90, 3) := by decide +kernel
theorem dX6_findingOf_8 : decode cX6_findingOf 8 = .ok (.ifCond .eq 5, 3) := by decide +kernel
theorem dX6_findingOf_11 : decode cX6_findingOf 11 = .ok (.iconst 1, 1) := by decide +kernel
theorem dX6_findingOf_12 : decode cX6_findingOf 12 = .ok (.ireturn, 1) := by decide +kernel
theorem dX6_findingOf_13 : decode cX6_findingOf 13 = .ok (.aload_n 0, 1) := by decide +kernel
theorem dX6_findingOf_14 : decode cX6_findingOf 14 = .ok (.getfield 10, 3) := by decide +kernel
theorem dX6_findingOf_17 : decode cX6_findingOf 17 = .ok (.iload_n 1, 1) := by decide +kernel
theorem dX6_findingOf_18 : decode cX6_findingOf 18 = .ok (.iload_n 2, 1) := by decide +kernel
theorem dX6_findingOf_19 : decode cX6_findingOf 19 = .ok (.iload_n 3, 1) := by decide +kernel
theorem dX6_findingOf_20 : decode cX6_findingOf 20 = .ok (.invokevirtual 96, 3) := by decide +kernel
theorem dX6_findingOf_23 : decode cX6_findingOf 23 = .ok (.ifCond .eq 7, 3) := by decide +kernel
theorem dX6_findingOf_26 : decode cX6_findingOf 26 = .ok (.iconst 0, 1) := by decide +kernel
theorem dX6_findingOf_27 : decode cX6_findingOf 27 = .ok (.goto 4, 3) := by decide +kernel
theorem dX6_findingOf_30 : decode cX6_findingOf 30 = .ok (.iconst 2, 1) := by decide +kernel
theorem dX6_findingOf_31 : decode cX6_findingOf 31 = .ok (.ireturn, 1) := by decide +kernel
theorem dX6_foretell_0 : decode cX6_foretell 0 = .ok (.aload_n 1, 1) := by decide +kernel
theorem dX6_foretell_1 : decode cX6_foretell 1 = .ok (.aload_n 0, 1) := by decide +kernel
theorem dX6_foretell_2 : decode cX6_foretell 2 = .ok (.getfield 26, 3) := by decide +kernel
theorem dX6_foretell_5 : decode cX6_foretell 5 = .ok (.invokevirtual 128, 3) := by decide +kernel
theorem dX6_foretell_8 : decode cX6_foretell 8 = .ok (.aload_n 1, 1) := by decide +kernel
theorem dX6_foretell_9 : decode cX6_foretell 9 = .ok (.iload_n 2, 1) := by decide +kernel
theorem dX6_foretell_10 : decode cX6_foretell 10 = .ok (.invokevirtual 222, 3) := by decide +kernel
theorem dX6_foretell_13 : decode cX6_foretell 13 = .ok (.ireturn, 1) := by decide +kernel
theorem dX6_placeOrNone_0 : decode cX6_placeOrNone 0 = .ok (.aload_n 0, 1) := by decide +kernel
theorem dX6_placeOrNone_1 : decode cX6_placeOrNone 1 = .ok (.iload_n 1, 1) := by decide +kernel
theorem dX6_placeOrNone_2 : decode cX6_placeOrNone 2 = .ok (.invokevirtual 162, 3) := by decide +kernel
theorem dX6_placeOrNone_5 : decode cX6_placeOrNone 5 = .ok (.istore_n 2, 1) := by decide +kernel
theorem dX6_placeOrNone_6 : decode cX6_placeOrNone 6 = .ok (.iload_n 2, 1) := by decide +kernel
theorem dX6_placeOrNone_7 : decode cX6_placeOrNone 7 = .ok (.ifCond .ge 8, 3) := by decide +kernel
theorem dX6_placeOrNone_10 : decode cX6_placeOrNone 10 = .ok (.ldc 203, 2) := by decide +kernel
theorem dX6_placeOrNone_12 : decode cX6_placeOrNone 12 = .ok (.goto 4, 3) := by decide +kernel
theorem dX6_placeOrNone_15 : decode cX6_placeOrNone 15 = .ok (.iload_n 2, 1) := by decide +kernel
theorem dX6_placeOrNone_16 : decode cX6_placeOrNone 16 = .ok (.ireturn, 1) := by decide +kernel
theorem dX6_sitAsTold_0 : decode cX6_sitAsTold 0 = .ok (.iconst 0, 1) := by decide +kernel
theorem dX6_sitAsTold_1 : decode cX6_sitAsTold 1 = .ok (.istore 4, 2) := by decide +kernel
theorem dX6_sitAsTold_3 : decode cX6_sitAsTold 3 = .ok (.iload 4, 2) := by decide +kernel
theorem dX6_sitAsTold_5 : decode cX6_sitAsTold 5 = .ok (.iload_n 3, 1) := by decide +kernel
theorem dX6_sitAsTold_6 : decode cX6_sitAsTold 6 = .ok (.if_icmp .ge 42, 3) := by decide +kernel
theorem dX6_sitAsTold_9 : decode cX6_sitAsTold 9 = .ok (.aload_n 0, 1) := by decide +kernel
theorem dX6_sitAsTold_10 : decode cX6_sitAsTold 10 = .ok (.getfield 43, 3) := by decide +kernel
theorem dX6_sitAsTold_13 : decode cX6_sitAsTold 13 = .ok (.iconst 0, 1) := by decide +kernel
theorem dX6_sitAsTold_14 : decode cX6_sitAsTold 14 = .ok (.invokevirtual 152, 3) := by decide +kernel
theorem dX6_sitAsTold_17 : decode cX6_sitAsTold 17 = .ok (.pop, 1) := by decide +kernel
theorem dX6_sitAsTold_18 : decode cX6_sitAsTold 18 = .ok (.aload_n 0, 1) := by decide +kernel
theorem dX6_sitAsTold_19 : decode cX6_sitAsTold 19 = .ok (.getfield 43, 3) := by decide +kernel
theorem dX6_sitAsTold_22 : decode cX6_sitAsTold 22 = .ok (.getfield 175, 3) := by decide +kernel
theorem dX6_sitAsTold_25 : decode cX6_sitAsTold 25 = .ok (.aload_n 0, 1) := by decide +kernel
theorem dX6_sitAsTold_26 : decode cX6_sitAsTold 26 = .ok (.getfield 10, 3) := by decide +kernel
theorem dX6_sitAsTold_29 : decode cX6_sitAsTold 29 = .ok (.iload_n 1, 1) := by decide +kernel
theorem dX6_sitAsTold_30 : decode cX6_sitAsTold 30 = .ok (.iload_n 2, 1) := by decide +kernel
theorem dX6_sitAsTold_31 : decode cX6_sitAsTold 31 = .ok (.iload 4, 2) := by decide +kernel
theorem dX6_sitAsTold_33 : decode cX6_sitAsTold 33 = .ok (.iadd, 1) := by decide +kernel
theorem dX6_sitAsTold_34 : decode cX6_sitAsTold 34 = .ok (.invokevirtual 298, 3) := by decide +kernel
theorem dX6_sitAsTold_37 : decode cX6_sitAsTold 37 = .ok (.if_icmp .eq 5, 3) := by decide +kernel
theorem dX6_sitAsTold_40 : decode cX6_sitAsTold 40 = .ok (.iconst 0, 1) := by decide +kernel
theorem dX6_sitAsTold_41 : decode cX6_sitAsTold 41 = .ok (.ireturn, 1) := by decide +kernel
theorem dX6_sitAsTold_42 : decode cX6_sitAsTold 42 = .ok (.iinc 4 1, 3) := by decide +kernel
theorem dX6_sitAsTold_45 : decode cX6_sitAsTold 45 = .ok (.goto (-42), 3) := by decide +kernel
theorem dX6_sitAsTold_48 : decode cX6_sitAsTold 48 = .ok (.iconst 1, 1) := by decide +kernel
theorem dX6_sitAsTold_49 : decode cX6_sitAsTold 49 = .ok (.ireturn, 1) := by decide +kernel
theorem dX6_sitsAsTold_0 : decode cX6_sitsAsTold 0 = .ok (.iconst 0, 1) := by decide +kernel
theorem dX6_sitsAsTold_1 : decode cX6_sitsAsTold 1 = .ok (.istore 5, 2) := by decide +kernel
theorem dX6_sitsAsTold_3 : decode cX6_sitsAsTold 3 = .ok (.iload 5, 2) := by decide +kernel
theorem dX6_sitsAsTold_5 : decode cX6_sitsAsTold 5 = .ok (.iload 4, 2) := by decide +kernel
theorem dX6_sitsAsTold_7 : decode cX6_sitsAsTold 7 = .ok (.if_icmp .ge 43, 3) := by decide +kernel
theorem dX6_sitsAsTold_10 : decode cX6_sitsAsTold 10 = .ok (.aload_n 0, 1) := by decide +kernel
theorem dX6_sitsAsTold_11 : decode cX6_sitsAsTold 11 = .ok (.getfield 43, 3) := by decide +kernel
theorem dX6_sitsAsTold_14 : decode cX6_sitsAsTold 14 = .ok (.iconst 0, 1) := by decide +kernel
theorem dX6_sitsAsTold_15 : decode cX6_sitsAsTold 15 = .ok (.invokevirtual 152, 3) := by decide +kernel
theorem dX6_sitsAsTold_18 : decode cX6_sitsAsTold 18 = .ok (.pop, 1) := by decide +kernel
theorem dX6_sitsAsTold_19 : decode cX6_sitsAsTold 19 = .ok (.aload_n 0, 1) := by decide +kernel
theorem dX6_sitsAsTold_20 : decode cX6_sitsAsTold 20 = .ok (.getfield 43, 3) := by decide +kernel
theorem dX6_sitsAsTold_23 : decode cX6_sitsAsTold 23 = .ok (.iload_n 1, 1) := by decide +kernel
theorem dX6_sitsAsTold_24 : decode cX6_sitsAsTold 24 = .ok (.invokevirtual 162, 3) := by decide +kernel
theorem dX6_sitsAsTold_27 : decode cX6_sitsAsTold 27 = .ok (.aload_n 0, 1) := by decide +kernel
theorem dX6_sitsAsTold_28 : decode cX6_sitsAsTold 28 = .ok (.getfield 10, 3) := by decide +kernel
theorem dX6_sitsAsTold_31 : decode cX6_sitsAsTold 31 = .ok (.iload_n 2, 1) := by decide +kernel
theorem dX6_sitsAsTold_32 : decode cX6_sitsAsTold 32 = .ok (.iload_n 3, 1) := by decide +kernel
theorem dX6_sitsAsTold_33 : decode cX6_sitsAsTold 33 = .ok (.iload 5, 2) := by decide +kernel
theorem dX6_sitsAsTold_35 : decode cX6_sitsAsTold 35 = .ok (.iadd, 1) := by decide +kernel
theorem dX6_sitsAsTold_36 : decode cX6_sitsAsTold 36 = .ok (.invokevirtual 298, 3) := by decide +kernel
theorem dX6_sitsAsTold_39 : decode cX6_sitsAsTold 39 = .ok (.if_icmp .eq 5, 3) := by decide +kernel
theorem dX6_sitsAsTold_42 : decode cX6_sitsAsTold 42 = .ok (.iconst 0, 1) := by decide +kernel
theorem dX6_sitsAsTold_43 : decode cX6_sitsAsTold 43 = .ok (.ireturn, 1) := by decide +kernel
theorem dX6_sitsAsTold_44 : decode cX6_sitsAsTold 44 = .ok (.iinc 5 1, 3) := by decide +kernel
theorem dX6_sitsAsTold_47 : decode cX6_sitsAsTold 47 = .ok (.goto (-44), 3) := by decide +kernel
theorem dX6_sitsAsTold_50 : decode cX6_sitsAsTold 50 = .ok (.iconst 1, 1) := by decide +kernel
theorem dX6_sitsAsTold_51 : decode cX6_sitsAsTold 51 = .ok (.ireturn, 1) := by decide +kernel
theorem dX6_casesWarm_0 : decode cX6_casesWarm 0 = .ok (.iload_n 3, 1) := by decide +kernel
theorem dX6_casesWarm_1 : decode cX6_casesWarm 1 = .ok (.invokestatic 249, 3) := by decide +kernel
theorem dX6_casesWarm_4 : decode cX6_casesWarm 4 = .ok (.istore 4, 2) := by decide +kernel
theorem dX6_casesWarm_6 : decode cX6_casesWarm 6 = .ok (.lconst 0, 1) := by decide +kernel
theorem dX6_casesWarm_7 : decode cX6_casesWarm 7 = .ok (.lstore 5, 2) := by decide +kernel
theorem dX6_casesWarm_9 : decode cX6_casesWarm 9 = .ok (.iconst 0, 1) := by decide +kernel
theorem dX6_casesWarm_10 : decode cX6_casesWarm 10 = .ok (.istore 7, 2) := by decide +kernel
theorem dX6_casesWarm_12 : decode cX6_casesWarm 12 = .ok (.iload 7, 2) := by decide +kernel
theorem dX6_casesWarm_14 : decode cX6_casesWarm 14 = .ok (.sipush 128, 3) := by decide +kernel
theorem dX6_casesWarm_17 : decode cX6_casesWarm 17 = .ok (.if_icmp .ge 94, 3) := by decide +kernel
theorem dX6_casesWarm_20 : decode cX6_casesWarm 20 = .ok (.iload 7, 2) := by decide +kernel
theorem dX6_casesWarm_22 : decode cX6_casesWarm 22 = .ok (.iload_n 3, 1) := by decide +kernel
theorem dX6_casesWarm_23 : decode cX6_casesWarm 23 = .ok (.iconst (-1), 1) := by decide +kernel
theorem dX6_casesWarm_24 : decode cX6_casesWarm 24 = .ok (.ixor, 1) := by decide +kernel
theorem dX6_casesWarm_25 : decode cX6_casesWarm 25 = .ok (.iand, 1) := by decide +kernel
theorem dX6_casesWarm_26 : decode cX6_casesWarm 26 = .ok (.ifCond .eq 6, 3) := by decide +kernel
theorem dX6_casesWarm_29 : decode cX6_casesWarm 29 = .ok (.goto 76, 3) := by decide +kernel
theorem dX6_casesWarm_32 : decode cX6_casesWarm 32 = .ok (.aload_n 0, 1) := by decide +kernel
theorem dX6_casesWarm_33 : decode cX6_casesWarm 33 = .ok (.getfield 43, 3) := by decide +kernel
theorem dX6_casesWarm_36 : decode cX6_casesWarm 36 = .ok (.aload_n 0, 1) := by decide +kernel
theorem dX6_casesWarm_37 : decode cX6_casesWarm 37 = .ok (.getfield 26, 3) := by decide +kernel
theorem dX6_casesWarm_40 : decode cX6_casesWarm 40 = .ok (.invokevirtual 128, 3) := by decide +kernel
theorem dX6_casesWarm_43 : decode cX6_casesWarm 43 = .ok (.aload_n 0, 1) := by decide +kernel
theorem dX6_casesWarm_44 : decode cX6_casesWarm 44 = .ok (.getfield 43, 3) := by decide +kernel
theorem dX6_casesWarm_47 : decode cX6_casesWarm 47 = .ok (.iload 7, 2) := by decide +kernel
theorem dX6_casesWarm_49 : decode cX6_casesWarm 49 = .ok (.invokevirtual 152, 3) := by decide +kernel
theorem dX6_casesWarm_52 : decode cX6_casesWarm 52 = .ok (.pop, 1) := by decide +kernel
theorem dX6_casesWarm_53 : decode cX6_casesWarm 53 = .ok (.aload_n 0, 1) := by decide +kernel
theorem dX6_casesWarm_54 : decode cX6_casesWarm 54 = .ok (.getfield 43, 3) := by decide +kernel
theorem dX6_casesWarm_57 : decode cX6_casesWarm 57 = .ok (.getfield 193, 3) := by decide +kernel
theorem dX6_casesWarm_60 : decode cX6_casesWarm 60 = .ok (.iload_n 1, 1) := by decide +kernel
theorem dX6_casesWarm_61 : decode cX6_casesWarm 61 = .ok (.iaload, 1) := by decide +kernel
theorem dX6_casesWarm_62 : decode cX6_casesWarm 62 = .ok (.aload_n 0, 1) := by decide +kernel
theorem dX6_casesWarm_63 : decode cX6_casesWarm 63 = .ok (.getfield 26, 3) := by decide +kernel
theorem dX6_casesWarm_66 : decode cX6_casesWarm 66 = .ok (.getfield 193, 3) := by decide +kernel
theorem dX6_casesWarm_69 : decode cX6_casesWarm 69 = .ok (.iload_n 1, 1) := by decide +kernel
theorem dX6_casesWarm_70 : decode cX6_casesWarm 70 = .ok (.iaload, 1) := by decide +kernel
theorem dX6_casesWarm_71 : decode cX6_casesWarm 71 = .ok (.if_icmp .le 34, 3) := by decide +kernel
theorem dX6_casesWarm_74 : decode cX6_casesWarm 74 = .ok (.iload 7, 2) := by decide +kernel
theorem dX6_casesWarm_76 : decode cX6_casesWarm 76 = .ok (.invokestatic 249, 3) := by decide +kernel
theorem dX6_casesWarm_79 : decode cX6_casesWarm 79 = .ok (.istore 8, 2) := by decide +kernel
theorem dX6_casesWarm_81 : decode cX6_casesWarm 81 = .ok (.lload 5, 2) := by decide +kernel
theorem dX6_casesWarm_83 : decode cX6_casesWarm 83 = .ok (.iload_n 2, 1) := by decide +kernel
theorem dX6_casesWarm_84 : decode cX6_casesWarm 84 = .ok (.iload 8, 2) := by decide +kernel
theorem dX6_casesWarm_86 : decode cX6_casesWarm 86 = .ok (.invokestatic 254, 3) := by decide +kernel
theorem dX6_casesWarm_89 : decode cX6_casesWarm 89 = .ok (.bipush 10, 2) := by decide +kernel
theorem dX6_casesWarm_91 : decode cX6_casesWarm 91 = .ok (.iload_n 2, 1) := by decide +kernel
theorem dX6_casesWarm_92 : decode cX6_casesWarm 92 = .ok (.isub, 1) := by decide +kernel
theorem dX6_casesWarm_93 : decode cX6_casesWarm 93 = .ok (.iload 4, 2) := by decide +kernel
theorem dX6_casesWarm_95 : decode cX6_casesWarm 95 = .ok (.iload 8, 2) := by decide +kernel
theorem dX6_casesWarm_97 : decode cX6_casesWarm 97 = .ok (.isub, 1) := by decide +kernel
theorem dX6_casesWarm_98 : decode cX6_casesWarm 98 = .ok (.invokestatic 254, 3) := by decide +kernel
theorem dX6_casesWarm_101 : decode cX6_casesWarm 101 = .ok (.lmul, 1) := by decide +kernel
theorem dX6_casesWarm_102 : decode cX6_casesWarm 102 = .ok (.ladd, 1) := by decide +kernel
theorem dX6_casesWarm_103 : decode cX6_casesWarm 103 = .ok (.lstore 5, 2) := by decide +kernel
theorem dX6_casesWarm_105 : decode cX6_casesWarm 105 = .ok (.iinc 7 1, 3) := by decide +kernel
theorem dX6_casesWarm_108 : decode cX6_casesWarm 108 = .ok (.goto (-96), 3) := by decide +kernel
theorem dX6_casesWarm_111 : decode cX6_casesWarm 111 = .ok (.lload 5, 2) := by decide +kernel
theorem dX6_casesWarm_113 : decode cX6_casesWarm 113 = .ok (.lreturn, 1) := by decide +kernel
theorem dX6_power_0 : decode cX6_power 0 = .ok (.lconst 1, 1) := by decide +kernel
theorem dX6_power_1 : decode cX6_power 1 = .ok (.lstore_n 2, 1) := by decide +kernel
theorem dX6_power_2 : decode cX6_power 2 = .ok (.iconst 0, 1) := by decide +kernel
theorem dX6_power_3 : decode cX6_power 3 = .ok (.istore 4, 2) := by decide +kernel
theorem dX6_power_5 : decode cX6_power 5 = .ok (.iload 4, 2) := by decide +kernel
theorem dX6_power_7 : decode cX6_power 7 = .ok (.iload_n 1, 1) := by decide +kernel
theorem dX6_power_8 : decode cX6_power 8 = .ok (.if_icmp .ge 14, 3) := by decide +kernel
theorem dX6_power_11 : decode cX6_power 11 = .ok (.lload_n 2, 1) := by decide +kernel
theorem dX6_power_12 : decode cX6_power 12 = .ok (.iload_n 0, 1) := by decide +kernel
theorem dX6_power_13 : decode cX6_power 13 = .ok (.i2l, 1) := by decide +kernel
theorem dX6_power_14 : decode cX6_power 14 = .ok (.lmul, 1) := by decide +kernel
theorem dX6_power_15 : decode cX6_power 15 = .ok (.lstore_n 2, 1) := by decide +kernel
theorem dX6_power_16 : decode cX6_power 16 = .ok (.iinc 4 1, 3) := by decide +kernel
theorem dX6_power_19 : decode cX6_power 19 = .ok (.goto (-14), 3) := by decide +kernel
theorem dX6_power_22 : decode cX6_power 22 = .ok (.lload_n 2, 1) := by decide +kernel
theorem dX6_power_23 : decode cX6_power 23 = .ok (.lreturn, 1) := by decide +kernel
theorem dX6_commonDivisor_0 : decode cX6_commonDivisor 0 = .ok (.lload_n 0, 1) := by decide +kernel
theorem dX6_commonDivisor_1 : decode cX6_commonDivisor 1 = .ok (.lstore 4, 2) := by decide +kernel
theorem dX6_commonDivisor_3 : decode cX6_commonDivisor 3 = .ok (.lload_n 2, 1) := by decide +kernel
theorem dX6_commonDivisor_4 : decode cX6_commonDivisor 4 = .ok (.lstore 6, 2) := by decide +kernel
theorem dX6_commonDivisor_6 : decode cX6_commonDivisor 6 = .ok (.iconst 0, 1) := by decide +kernel
theorem dX6_commonDivisor_7 : decode cX6_commonDivisor 7 = .ok (.istore 8, 2) := by decide +kernel
theorem dX6_commonDivisor_9 : decode cX6_commonDivisor 9 = .ok (.iload 8, 2) := by decide +kernel
theorem dX6_commonDivisor_11 : decode cX6_commonDivisor 11 = .ok (.bipush 64, 2) := by decide +kernel
theorem dX6_commonDivisor_13 : decode cX6_commonDivisor 13 = .ok (.if_icmp .ge 31, 3) := by decide +kernel
theorem dX6_commonDivisor_16 : decode cX6_commonDivisor 16 = .ok (.lload 6, 2) := by decide +kernel
theorem dX6_commonDivisor_18 : decode cX6_commonDivisor 18 = .ok (.lconst 0, 1) := by decide +kernel
theorem dX6_commonDivisor_19 : decode cX6_commonDivisor 19 = .ok (.lcmp, 1) := by decide +kernel
theorem dX6_commonDivisor_20 : decode cX6_commonDivisor 20 = .ok (.ifCond .eq 24, 3) := by decide +kernel
theorem dX6_commonDivisor_23 : decode cX6_commonDivisor 23 = .ok (.lload 4, 2) := by decide +kernel
theorem dX6_commonDivisor_25 : decode cX6_commonDivisor 25 = .ok (.lload 6, 2) := by decide +kernel
theorem dX6_commonDivisor_27 : decode cX6_commonDivisor 27 = .ok (.lrem, 1) := by decide +kernel
theorem dX6_commonDivisor_28 : decode cX6_commonDivisor 28 = .ok (.lstore 9, 2) := by decide +kernel
theorem dX6_commonDivisor_30 : decode cX6_commonDivisor 30 = .ok (.lload 6, 2) := by decide +kernel
theorem dX6_commonDivisor_32 : decode cX6_commonDivisor 32 = .ok (.lstore 4, 2) := by decide +kernel
theorem dX6_commonDivisor_34 : decode cX6_commonDivisor 34 = .ok (.lload 9, 2) := by decide +kernel
theorem dX6_commonDivisor_36 : decode cX6_commonDivisor 36 = .ok (.lstore 6, 2) := by decide +kernel
theorem dX6_commonDivisor_38 : decode cX6_commonDivisor 38 = .ok (.iinc 8 1, 3) := by decide +kernel
theorem dX6_commonDivisor_41 : decode cX6_commonDivisor 41 = .ok (.goto (-32), 3) := by decide +kernel
theorem dX6_commonDivisor_44 : decode cX6_commonDivisor 44 = .ok (.lload 4, 2) := by decide +kernel
theorem dX6_commonDivisor_46 : decode cX6_commonDivisor 46 = .ok (.lreturn, 1) := by decide +kernel
theorem dX6_imageOf_0 : decode cX6_imageOf 0 = .ok (.iload_n 1, 1) := by decide +kernel
theorem dX6_imageOf_1 : decode cX6_imageOf 1 = .ok (.ifCond .ne 10, 3) := by decide +kernel
theorem dX6_imageOf_4 : decode cX6_imageOf 4 = .ok (.aload_n 0, 1) := by decide +kernel
theorem dX6_imageOf_5 : decode cX6_imageOf 5 = .ok (.getfield 37, 3) := by decide +kernel
theorem dX6_imageOf_8 : decode cX6_imageOf 8 = .ok (.goto 7, 3) := by decide +kernel
theorem dX6_imageOf_11 : decode cX6_imageOf 11 = .ok (.aload_n 0, 1) := by decide +kernel
theorem dX6_imageOf_12 : decode cX6_imageOf 12 = .ok (.getfield 40, 3) := by decide +kernel
theorem dX6_imageOf_15 : decode cX6_imageOf 15 = .ok (.areturn, 1) := by decide +kernel
theorem dX7_init_0 : decode cX7_init 0 = .ok (.aload_n 0, 1) := by decide +kernel
theorem dX7_init_1 : decode cX7_init 1 = .ok (.invokespecial 1, 3) := by decide +kernel
theorem dX7_init_4 : decode cX7_init 4 = .ok (.aload_n 0, 1) := by decide +kernel
theorem dX7_init_5 : decode cX7_init 5 = .ok (.bipush 8, 2) := by decide +kernel
theorem dX7_init_7 : decode cX7_init 7 = .ok (.newarray .int, 2) := by decide +kernel
theorem dX7_init_9 : decode cX7_init 9 = .ok (.dup, 1) := by decide +kernel
theorem dX7_init_10 : decode cX7_init 10 = .ok (.iconst 0, 1) := by decide +kernel
theorem dX7_init_11 : decode cX7_init 11 = .ok (.iconst (-1), 1) := by decide +kernel
theorem dX7_init_12 : decode cX7_init 12 = .ok (.iastore, 1) := by decide +kernel
theorem dX7_init_13 : decode cX7_init 13 = .ok (.dup, 1) := by decide +kernel
theorem dX7_init_14 : decode cX7_init 14 = .ok (.iconst 1, 1) := by decide +kernel
theorem dX7_init_15 : decode cX7_init 15 = .ok (.iconst (-1), 1) := by decide +kernel
theorem dX7_init_16 : decode cX7_init 16 = .ok (.iastore, 1) := by decide +kernel
theorem dX7_init_17 : decode cX7_init 17 = .ok (.dup, 1) := by decide +kernel
theorem dX7_init_18 : decode cX7_init 18 = .ok (.iconst 2, 1) := by decide +kernel
theorem dX7_init_19 : decode cX7_init 19 = .ok (.iconst (-1), 1) := by decide +kernel
theorem dX7_init_20 : decode cX7_init 20 = .ok (.iastore, 1) := by decide +kernel
theorem dX7_init_21 : decode cX7_init 21 = .ok (.dup, 1) := by decide +kernel
theorem dX7_init_22 : decode cX7_init 22 = .ok (.iconst 3, 1) := by decide +kernel
theorem dX7_init_23 : decode cX7_init 23 = .ok (.iconst (-1), 1) := by decide +kernel
theorem dX7_init_24 : decode cX7_init 24 = .ok (.iastore, 1) := by decide +kernel
theorem dX7_init_25 : decode cX7_init 25 = .ok (.dup, 1) := by decide +kernel
theorem dX7_init_26 : decode cX7_init 26 = .ok (.iconst 4, 1) := by decide +kernel
theorem dX7_init_27 : decode cX7_init 27 = .ok (.iconst (-1), 1) := by decide +kernel
theorem dX7_init_28 : decode cX7_init 28 = .ok (.iastore, 1) := by decide +kernel
theorem dX7_init_29 : decode cX7_init 29 = .ok (.dup, 1) := by decide +kernel
theorem dX7_init_30 : decode cX7_init 30 = .ok (.iconst 5, 1) := by decide +kernel
theorem dX7_init_31 : decode cX7_init 31 = .ok (.iconst (-1), 1) := by decide +kernel
theorem dX7_init_32 : decode cX7_init 32 = .ok (.iastore, 1) := by decide +kernel
theorem dX7_init_33 : decode cX7_init 33 = .ok (.dup, 1) := by decide +kernel
theorem dX7_init_34 : decode cX7_init 34 = .ok (.bipush 6, 2) := by decide +kernel
theorem dX7_init_36 : decode cX7_init 36 = .ok (.iconst (-1), 1) := by decide +kernel
theorem dX7_init_37 : decode cX7_init 37 = .ok (.iastore, 1) := by decide +kernel
theorem dX7_init_38 : decode cX7_init 38 = .ok (.dup, 1) := by decide +kernel
theorem dX7_init_39 : decode cX7_init 39 = .ok (.bipush 7, 2) := by decide +kernel
theorem dX7_init_41 : decode cX7_init 41 = .ok (.iconst (-1), 1) := by decide +kernel
theorem dX7_init_42 : decode cX7_init 42 = .ok (.iastore, 1) := by decide +kernel
theorem dX7_init_43 : decode cX7_init 43 = .ok (.putfield 7, 3) := by decide +kernel
theorem dX7_init_46 : decode cX7_init 46 = .ok (.aload_n 0, 1) := by decide +kernel
theorem dX7_init_47 : decode cX7_init 47 = .ok (.bipush 8, 2) := by decide +kernel
theorem dX7_init_49 : decode cX7_init 49 = .ok (.newarray .int, 2) := by decide +kernel
theorem dX7_init_51 : decode cX7_init 51 = .ok (.putfield 13, 3) := by decide +kernel
