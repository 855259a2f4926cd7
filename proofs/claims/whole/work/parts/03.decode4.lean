theorem dX12_bear_40 : decode cX12_bear 40 = .ok (.aload_n 0, 1) := by decide +kernel
theorem dX12_bear_41 : decode cX12_bear 41 = .ok (.getfield 19, 3) := by decide +kernel
theorem dX12_bear_44 : decode cX12_bear 44 = .ok (.bipush 26, 2) := by decide +kernel
theorem dX12_bear_46 : decode cX12_bear 46 = .ok (.iload_n 1, 1) := by decide +kernel
theorem dX12_bear_47 : decode cX12_bear 47 = .ok (.iadd, 1) := by decide +kernel
theorem dX12_bear_48 : decode cX12_bear 48 = .ok (.iload_n 2, 1) := by decide +kernel
theorem dX12_bear_49 : decode cX12_bear 49 = .ok (.iastore, 1) := by decide +kernel
theorem dX12_bear_50 : decode cX12_bear 50 = .ok (.iload_n 3, 1) := by decide +kernel
theorem dX12_bear_51 : decode cX12_bear 51 = .ok (.ireturn, 1) := by decide +kernel
theorem dX12_draw_0 : decode cX12_draw 0 = .ok (.aload_n 0, 1) := by decide +kernel
theorem dX12_draw_1 : decode cX12_draw 1 = .ok (.aload_n 0, 1) := by decide +kernel
theorem dX12_draw_2 : decode cX12_draw 2 = .ok (.getfield 259, 3) := by decide +kernel
theorem dX12_draw_5 : decode cX12_draw 5 = .ok (.i2l, 1) := by decide +kernel
theorem dX12_draw_6 : decode cX12_draw 6 = .ok (.ldc2_w 262, 3) := by decide +kernel
theorem dX12_draw_9 : decode cX12_draw 9 = .ok (.lmul, 1) := by decide +kernel
theorem dX12_draw_10 : decode cX12_draw 10 = .ok (.ldc2_w 264, 3) := by decide +kernel
theorem dX12_draw_13 : decode cX12_draw 13 = .ok (.ladd, 1) := by decide +kernel
theorem dX12_draw_14 : decode cX12_draw 14 = .ok (.ldc2_w 266, 3) := by decide +kernel
theorem dX12_draw_17 : decode cX12_draw 17 = .ok (.lrem, 1) := by decide +kernel
theorem dX12_draw_18 : decode cX12_draw 18 = .ok (.l2i, 1) := by decide +kernel
theorem dX12_draw_19 : decode cX12_draw 19 = .ok (.putfield 259, 3) := by decide +kernel
theorem dX12_draw_22 : decode cX12_draw 22 = .ok (.aload_n 0, 1) := by decide +kernel
theorem dX12_draw_23 : decode cX12_draw 23 = .ok (.getfield 259, 3) := by decide +kernel
theorem dX12_draw_26 : decode cX12_draw 26 = .ok (.ldc_w 268, 3) := by decide +kernel
theorem dX12_draw_29 : decode cX12_draw 29 = .ok (.idiv, 1) := by decide +kernel
theorem dX12_draw_30 : decode cX12_draw 30 = .ok (.iload_n 1, 1) := by decide +kernel
theorem dX12_draw_31 : decode cX12_draw 31 = .ok (.irem, 1) := by decide +kernel
theorem dX12_draw_32 : decode cX12_draw 32 = .ok (.ireturn, 1) := by decide +kernel
theorem dX12_chance_0 : decode cX12_chance 0 = .ok (.aload_n 0, 1) := by decide +kernel
theorem dX12_chance_1 : decode cX12_chance 1 = .ok (.iconst 4, 1) := by decide +kernel
theorem dX12_chance_2 : decode cX12_chance 2 = .ok (.invokevirtual 269, 3) := by decide +kernel
theorem dX12_chance_5 : decode cX12_chance 5 = .ok (.istore_n 1, 1) := by decide +kernel
theorem dX12_chance_6 : decode cX12_chance 6 = .ok (.aload_n 0, 1) := by decide +kernel
theorem dX12_chance_7 : decode cX12_chance 7 = .ok (.aload_n 0, 1) := by decide +kernel
theorem dX12_chance_8 : decode cX12_chance 8 = .ok (.getfield 72, 3) := by decide +kernel
theorem dX12_chance_11 : decode cX12_chance 11 = .ok (.invokevirtual 269, 3) := by decide +kernel
theorem dX12_chance_14 : decode cX12_chance 14 = .ok (.istore_n 2, 1) := by decide +kernel
theorem dX12_chance_15 : decode cX12_chance 15 = .ok (.aload_n 0, 1) := by decide +kernel
theorem dX12_chance_16 : decode cX12_chance 16 = .ok (.bipush 100, 2) := by decide +kernel
theorem dX12_chance_18 : decode cX12_chance 18 = .ok (.invokevirtual 269, 3) := by decide +kernel
theorem dX12_chance_21 : decode cX12_chance 21 = .ok (.istore_n 3, 1) := by decide +kernel
theorem dX12_chance_22 : decode cX12_chance 22 = .ok (.iload_n 1, 1) := by decide +kernel
theorem dX12_chance_23 : decode cX12_chance 23 = .ok (.iconst 2, 1) := by decide +kernel
theorem dX12_chance_24 : decode cX12_chance 24 = .ok (.if_icmp .ge 14, 3) := by decide +kernel
theorem dX12_chance_27 : decode cX12_chance 27 = .ok (.aload_n 0, 1) := by decide +kernel
theorem dX12_chance_28 : decode cX12_chance 28 = .ok (.iload_n 2, 1) := by decide +kernel
theorem dX12_chance_29 : decode cX12_chance 29 = .ok (.iload_n 3, 1) := by decide +kernel
theorem dX12_chance_30 : decode cX12_chance 30 = .ok (.invokevirtual 240, 3) := by decide +kernel
theorem dX12_chance_33 : decode cX12_chance 33 = .ok (.istore 4, 2) := by decide +kernel
theorem dX12_chance_35 : decode cX12_chance 35 = .ok (.goto 40, 3) := by decide +kernel
theorem dX12_chance_38 : decode cX12_chance 38 = .ok (.iload_n 1, 1) := by decide +kernel
theorem dX12_chance_39 : decode cX12_chance 39 = .ok (.iconst 3, 1) := by decide +kernel
theorem dX12_chance_40 : decode cX12_chance 40 = .ok (.if_icmp .ne 20, 3) := by decide +kernel
theorem dX12_chance_43 : decode cX12_chance 43 = .ok (.aload_n 0, 1) := by decide +kernel
theorem dX12_chance_44 : decode cX12_chance 44 = .ok (.getfield 19, 3) := by decide +kernel
theorem dX12_chance_47 : decode cX12_chance 47 = .ok (.iconst 5, 1) := by decide +kernel
theorem dX12_chance_48 : decode cX12_chance 48 = .ok (.iload_n 2, 1) := by decide +kernel
theorem dX12_chance_49 : decode cX12_chance 49 = .ok (.iadd, 1) := by decide +kernel
theorem dX12_chance_50 : decode cX12_chance 50 = .ok (.iload_n 3, 1) := by decide +kernel
theorem dX12_chance_51 : decode cX12_chance 51 = .ok (.bipush 9, 2) := by decide +kernel
theorem dX12_chance_53 : decode cX12_chance 53 = .ok (.irem, 1) := by decide +kernel
theorem dX12_chance_54 : decode cX12_chance 54 = .ok (.iconst 1, 1) := by decide +kernel
theorem dX12_chance_55 : decode cX12_chance 55 = .ok (.iadd, 1) := by decide +kernel
theorem dX12_chance_56 : decode cX12_chance 56 = .ok (.iastore, 1) := by decide +kernel
theorem dX12_chance_57 : decode cX12_chance 57 = .ok (.goto 18, 3) := by decide +kernel
theorem dX12_chance_60 : decode cX12_chance 60 = .ok (.aload_n 0, 1) := by decide +kernel
theorem dX12_chance_61 : decode cX12_chance 61 = .ok (.iload_n 2, 1) := by decide +kernel
theorem dX12_chance_62 : decode cX12_chance 62 = .ok (.iload_n 2, 1) := by decide +kernel
theorem dX12_chance_63 : decode cX12_chance 63 = .ok (.invokevirtual 243, 3) := by decide +kernel
theorem dX12_chance_66 : decode cX12_chance 66 = .ok (.ifCond .eq 9, 3) := by decide +kernel
theorem dX12_chance_69 : decode cX12_chance 69 = .ok (.aload_n 0, 1) := by decide +kernel
theorem dX12_chance_70 : decode cX12_chance 70 = .ok (.iload_n 2, 1) := by decide +kernel
theorem dX12_chance_71 : decode cX12_chance 71 = .ok (.iload_n 2, 1) := by decide +kernel
theorem dX12_chance_72 : decode cX12_chance 72 = .ok (.invokevirtual 247, 3) := by decide +kernel
theorem dX12_chance_75 : decode cX12_chance 75 = .ok (.return_, 1) := by decide +kernel
theorem dX12_drift_0 : decode cX12_drift 0 = .ok (.iload_n 1, 1) := by decide +kernel
theorem dX12_drift_1 : decode cX12_drift 1 = .ok (.i2l, 1) := by decide +kernel
theorem dX12_drift_2 : decode cX12_drift 2 = .ok (.lconst 1, 1) := by decide +kernel
theorem dX12_drift_3 : decode cX12_drift 3 = .ok (.ldc2_w 251, 3) := by decide +kernel
theorem dX12_drift_6 : decode cX12_drift 6 = .ok (.invokestatic 75, 3) := by decide +kernel
theorem dX12_drift_9 : decode cX12_drift 9 = .ok (.ifCond .ne 6, 3) := by decide +kernel
theorem dX12_drift_12 : decode cX12_drift 12 = .ok (.ldc 84, 2) := by decide +kernel
theorem dX12_drift_14 : decode cX12_drift 14 = .ok (.ireturn, 1) := by decide +kernel
theorem dX12_drift_15 : decode cX12_drift 15 = .ok (.aload_n 0, 1) := by decide +kernel
theorem dX12_drift_16 : decode cX12_drift 16 = .ok (.invokevirtual 253, 3) := by decide +kernel
theorem dX12_drift_19 : decode cX12_drift 19 = .ok (.ifCond .ne 6, 3) := by decide +kernel
theorem dX12_drift_22 : decode cX12_drift 22 = .ok (.ldc 246, 2) := by decide +kernel
theorem dX12_drift_24 : decode cX12_drift 24 = .ok (.ireturn, 1) := by decide +kernel
theorem dX12_drift_25 : decode cX12_drift 25 = .ok (.aload_n 0, 1) := by decide +kernel
theorem dX12_drift_26 : decode cX12_drift 26 = .ok (.getfield 19, 3) := by decide +kernel
theorem dX12_drift_29 : decode cX12_drift 29 = .ok (.iconst 1, 1) := by decide +kernel
theorem dX12_drift_30 : decode cX12_drift 30 = .ok (.iaload, 1) := by decide +kernel
theorem dX12_drift_31 : decode cX12_drift 31 = .ok (.sipush 9000, 3) := by decide +kernel
theorem dX12_drift_34 : decode cX12_drift 34 = .ok (.if_icmp .le 6, 3) := by decide +kernel
theorem dX12_drift_37 : decode cX12_drift 37 = .ok (.ldc 88, 2) := by decide +kernel
theorem dX12_drift_39 : decode cX12_drift 39 = .ok (.ireturn, 1) := by decide +kernel
theorem dX12_drift_40 : decode cX12_drift 40 = .ok (.aload_n 0, 1) := by decide +kernel
theorem dX12_drift_41 : decode cX12_drift 41 = .ok (.invokevirtual 237, 3) := by decide +kernel
theorem dX12_drift_44 : decode cX12_drift 44 = .ok (.iconst 0, 1) := by decide +kernel
theorem dX12_drift_45 : decode cX12_drift 45 = .ok (.istore_n 2, 1) := by decide +kernel
theorem dX12_drift_46 : decode cX12_drift 46 = .ok (.iload_n 2, 1) := by decide +kernel
theorem dX12_drift_47 : decode cX12_drift 47 = .ok (.iload_n 1, 1) := by decide +kernel
theorem dX12_drift_48 : decode cX12_drift 48 = .ok (.if_icmp .ge 25, 3) := by decide +kernel
theorem dX12_drift_51 : decode cX12_drift 51 = .ok (.aload_n 0, 1) := by decide +kernel
theorem dX12_drift_52 : decode cX12_drift 52 = .ok (.getfield 72, 3) := by decide +kernel
theorem dX12_drift_55 : decode cX12_drift 55 = .ok (.ifCond .le 7, 3) := by decide +kernel
theorem dX12_drift_58 : decode cX12_drift 58 = .ok (.aload_n 0, 1) := by decide +kernel
theorem dX12_drift_59 : decode cX12_drift 59 = .ok (.invokevirtual 272, 3) := by decide +kernel
theorem dX12_drift_62 : decode cX12_drift 62 = .ok (.aload_n 0, 1) := by decide +kernel
theorem dX12_drift_63 : decode cX12_drift 63 = .ok (.iconst 0, 1) := by decide +kernel
theorem dX12_drift_64 : decode cX12_drift 64 = .ok (.invokevirtual 184, 3) := by decide +kernel
theorem dX12_drift_67 : decode cX12_drift 67 = .ok (.iinc 2 1, 3) := by decide +kernel
theorem dX12_drift_70 : decode cX12_drift 70 = .ok (.goto (-24), 3) := by decide +kernel
theorem dX12_drift_73 : decode cX12_drift 73 = .ok (.aload_n 0, 1) := by decide +kernel
theorem dX12_drift_74 : decode cX12_drift 74 = .ok (.getfield 19, 3) := by decide +kernel
theorem dX12_drift_77 : decode cX12_drift 77 = .ok (.iconst 2, 1) := by decide +kernel
theorem dX12_drift_78 : decode cX12_drift 78 = .ok (.iaload, 1) := by decide +kernel
theorem dX12_drift_79 : decode cX12_drift 79 = .ok (.ireturn, 1) := by decide +kernel
theorem dX12_undo_0 : decode cX12_undo 0 = .ok (.aload_n 0, 1) := by decide +kernel
theorem dX12_undo_1 : decode cX12_undo 1 = .ok (.getfield 150, 3) := by decide +kernel
theorem dX12_undo_4 : decode cX12_undo 4 = .ok (.ifCond .ne 6, 3) := by decide +kernel
theorem dX12_undo_7 : decode cX12_undo 7 = .ok (.ldc 246, 2) := by decide +kernel
theorem dX12_undo_9 : decode cX12_undo 9 = .ok (.ireturn, 1) := by decide +kernel
theorem dX12_undo_10 : decode cX12_undo 10 = .ok (.aload_n 0, 1) := by decide +kernel
theorem dX12_undo_11 : decode cX12_undo 11 = .ok (.dup, 1) := by decide +kernel
theorem dX12_undo_12 : decode cX12_undo 12 = .ok (.getfield 150, 3) := by decide +kernel
theorem dX12_undo_15 : decode cX12_undo 15 = .ok (.iconst 1, 1) := by decide +kernel
theorem dX12_undo_16 : decode cX12_undo 16 = .ok (.isub, 1) := by decide +kernel
theorem dX12_undo_17 : decode cX12_undo 17 = .ok (.putfield 150, 3) := by decide +kernel
theorem dX12_undo_20 : decode cX12_undo 20 = .ok (.iconst 0, 1) := by decide +kernel
theorem dX12_undo_21 : decode cX12_undo 21 = .ok (.istore_n 1, 1) := by decide +kernel
theorem dX12_undo_22 : decode cX12_undo 22 = .ok (.iload_n 1, 1) := by decide +kernel
theorem dX12_undo_23 : decode cX12_undo 23 = .ok (.bipush 30, 2) := by decide +kernel
theorem dX12_undo_25 : decode cX12_undo 25 = .ok (.if_icmp .ge 29, 3) := by decide +kernel
theorem dX12_undo_28 : decode cX12_undo 28 = .ok (.aload_n 0, 1) := by decide +kernel
theorem dX12_undo_29 : decode cX12_undo 29 = .ok (.getfield 19, 3) := by decide +kernel
theorem dX12_undo_32 : decode cX12_undo 32 = .ok (.iload_n 1, 1) := by decide +kernel
theorem dX12_undo_33 : decode cX12_undo 33 = .ok (.aload_n 0, 1) := by decide +kernel
theorem dX12_undo_34 : decode cX12_undo 34 = .ok (.getfield 44, 3) := by decide +kernel
theorem dX12_undo_37 : decode cX12_undo 37 = .ok (.bipush 30, 2) := by decide +kernel
theorem dX12_undo_39 : decode cX12_undo 39 = .ok (.aload_n 0, 1) := by decide +kernel
theorem dX12_undo_40 : decode cX12_undo 40 = .ok (.getfield 150, 3) := by decide +kernel
theorem dX12_undo_43 : decode cX12_undo 43 = .ok (.imul, 1) := by decide +kernel
theorem dX12_undo_44 : decode cX12_undo 44 = .ok (.iload_n 1, 1) := by decide +kernel
theorem dX12_undo_45 : decode cX12_undo 45 = .ok (.iadd, 1) := by decide +kernel
theorem dX12_undo_46 : decode cX12_undo 46 = .ok (.iaload, 1) := by decide +kernel
theorem dX12_undo_47 : decode cX12_undo 47 = .ok (.iastore, 1) := by decide +kernel
theorem dX12_undo_48 : decode cX12_undo 48 = .ok (.iinc 1 1, 3) := by decide +kernel
theorem dX12_undo_51 : decode cX12_undo 51 = .ok (.goto (-29), 3) := by decide +kernel
theorem dX12_undo_54 : decode cX12_undo 54 = .ok (.aload_n 0, 1) := by decide +kernel
theorem dX12_undo_55 : decode cX12_undo 55 = .ok (.getfield 150, 3) := by decide +kernel
theorem dX12_undo_58 : decode cX12_undo 58 = .ok (.ireturn, 1) := by decide +kernel
theorem dX12_down_0 : decode cX12_down 0 = .ok (.aload_n 0, 1) := by decide +kernel
theorem dX12_down_1 : decode cX12_down 1 = .ok (.iload_n 1, 1) := by decide +kernel
theorem dX12_down_2 : decode cX12_down 2 = .ok (.invokevirtual 215, 3) := by decide +kernel
theorem dX12_down_5 : decode cX12_down 5 = .ok (.ifCond .ne 6, 3) := by decide +kernel
theorem dX12_down_8 : decode cX12_down 8 = .ok (.ldc 219, 2) := by decide +kernel
theorem dX12_down_10 : decode cX12_down 10 = .ok (.ireturn, 1) := by decide +kernel
theorem dX12_down_11 : decode cX12_down 11 = .ok (.iload_n 2, 1) := by decide +kernel
theorem dX12_down_12 : decode cX12_down 12 = .ok (.i2l, 1) := by decide +kernel
theorem dX12_down_13 : decode cX12_down 13 = .ok (.lconst 0, 1) := by decide +kernel
theorem dX12_down_14 : decode cX12_down 14 = .ok (.ldc2_w 235, 3) := by decide +kernel
theorem dX12_down_17 : decode cX12_down 17 = .ok (.invokestatic 75, 3) := by decide +kernel
theorem dX12_down_20 : decode cX12_down 20 = .ok (.ifCond .eq 13, 3) := by decide +kernel
theorem dX12_down_23 : decode cX12_down 23 = .ok (.iload_n 3, 1) := by decide +kernel
theorem dX12_down_24 : decode cX12_down 24 = .ok (.i2l, 1) := by decide +kernel
theorem dX12_down_25 : decode cX12_down 25 = .ok (.lconst 0, 1) := by decide +kernel
theorem dX12_down_26 : decode cX12_down 26 = .ok (.lconst 1, 1) := by decide +kernel
theorem dX12_down_27 : decode cX12_down 27 = .ok (.invokestatic 75, 3) := by decide +kernel
theorem dX12_down_30 : decode cX12_down 30 = .ok (.ifCond .ne 6, 3) := by decide +kernel
theorem dX12_down_33 : decode cX12_down 33 = .ok (.ldc 84, 2) := by decide +kernel
theorem dX12_down_35 : decode cX12_down 35 = .ok (.ireturn, 1) := by decide +kernel
theorem dX12_down_36 : decode cX12_down 36 = .ok (.aload_n 0, 1) := by decide +kernel
theorem dX12_down_37 : decode cX12_down 37 = .ok (.iload_n 1, 1) := by decide +kernel
theorem dX12_down_38 : decode cX12_down 38 = .ok (.iload_n 2, 1) := by decide +kernel
theorem dX12_down_39 : decode cX12_down 39 = .ok (.invokevirtual 159, 3) := by decide +kernel
theorem dX12_down_42 : decode cX12_down 42 = .ok (.istore 4, 2) := by decide +kernel
theorem dX12_down_44 : decode cX12_down 44 = .ok (.iload_n 3, 1) := by decide +kernel
theorem dX12_down_45 : decode cX12_down 45 = .ok (.ifCond .ne 8, 3) := by decide +kernel
theorem dX12_down_48 : decode cX12_down 48 = .ok (.iload 4, 2) := by decide +kernel
theorem dX12_down_50 : decode cX12_down 50 = .ok (.goto 7, 3) := by decide +kernel
theorem dX12_down_53 : decode cX12_down 53 = .ok (.aload_n 0, 1) := by decide +kernel
theorem dX12_down_54 : decode cX12_down 54 = .ok (.getfield 153, 3) := by decide +kernel
theorem dX12_down_57 : decode cX12_down 57 = .ok (.ireturn, 1) := by decide +kernel
theorem dX12_best_0 : decode cX12_best 0 = .ok (.iload_n 1, 1) := by decide +kernel
theorem dX12_best_1 : decode cX12_best 1 = .ok (.i2l, 1) := by decide +kernel
theorem dX12_best_2 : decode cX12_best 2 = .ok (.lconst 0, 1) := by decide +kernel
theorem dX12_best_3 : decode cX12_best 3 = .ok (.ldc2_w 235, 3) := by decide +kernel
theorem dX12_best_6 : decode cX12_best 6 = .ok (.invokestatic 75, 3) := by decide +kernel
theorem dX12_best_9 : decode cX12_best 9 = .ok (.ifCond .ne 6, 3) := by decide +kernel
theorem dX12_best_12 : decode cX12_best 12 = .ok (.ldc 84, 2) := by decide +kernel
theorem dX12_best_14 : decode cX12_best 14 = .ok (.ireturn, 1) := by decide +kernel
theorem dX12_best_15 : decode cX12_best 15 = .ok (.iconst (-1), 1) := by decide +kernel
theorem dX12_best_16 : decode cX12_best 16 = .ok (.istore_n 2, 1) := by decide +kernel
theorem dX12_best_17 : decode cX12_best 17 = .ok (.ldc_w 275, 3) := by decide +kernel
theorem dX12_best_20 : decode cX12_best 20 = .ok (.istore_n 3, 1) := by decide +kernel
theorem dX12_best_21 : decode cX12_best 21 = .ok (.iconst 0, 1) := by decide +kernel
theorem dX12_best_22 : decode cX12_best 22 = .ok (.istore 4, 2) := by decide +kernel
theorem dX12_best_24 : decode cX12_best 24 = .ok (.iload 4, 2) := by decide +kernel
theorem dX12_best_26 : decode cX12_best 26 = .ok (.aload_n 0, 1) := by decide +kernel
theorem dX12_best_27 : decode cX12_best 27 = .ok (.getfield 72, 3) := by decide +kernel
theorem dX12_best_30 : decode cX12_best 30 = .ok (.if_icmp .ge 58, 3) := by decide +kernel
theorem dX12_best_33 : decode cX12_best 33 = .ok (.aload_n 0, 1) := by decide +kernel
theorem dX12_best_34 : decode cX12_best 34 = .ok (.getfield 19, 3) := by decide +kernel
theorem dX12_best_37 : decode cX12_best 37 = .ok (.iconst 3, 1) := by decide +kernel
theorem dX12_best_38 : decode cX12_best 38 = .ok (.iaload, 1) := by decide +kernel
theorem dX12_best_39 : decode cX12_best 39 = .ok (.iload 4, 2) := by decide +kernel
theorem dX12_best_41 : decode cX12_best 41 = .ok (.invokestatic 174, 3) := by decide +kernel
theorem dX12_best_44 : decode cX12_best 44 = .ok (.ifCond .ne 38, 3) := by decide +kernel
theorem dX12_best_47 : decode cX12_best 47 = .ok (.aload_n 0, 1) := by decide +kernel
theorem dX12_best_48 : decode cX12_best 48 = .ok (.iload 4, 2) := by decide +kernel
theorem dX12_best_50 : decode cX12_best 50 = .ok (.iload_n 1, 1) := by decide +kernel
theorem dX12_best_51 : decode cX12_best 51 = .ok (.invokevirtual 159, 3) := by decide +kernel
theorem dX12_best_54 : decode cX12_best 54 = .ok (.istore 5, 2) := by decide +kernel
theorem dX12_best_56 : decode cX12_best 56 = .ok (.iload 5, 2) := by decide +kernel
theorem dX12_best_58 : decode cX12_best 58 = .ok (.iload_n 3, 1) := by decide +kernel
theorem dX12_best_59 : decode cX12_best 59 = .ok (.if_icmp .ge 8, 3) := by decide +kernel
theorem dX12_best_62 : decode cX12_best 62 = .ok (.iload 4, 2) := by decide +kernel
theorem dX12_best_64 : decode cX12_best 64 = .ok (.goto 4, 3) := by decide +kernel
theorem dX12_best_67 : decode cX12_best 67 = .ok (.iload_n 2, 1) := by decide +kernel
theorem dX12_best_68 : decode cX12_best 68 = .ok (.istore_n 2, 1) := by decide +kernel
theorem dX12_best_69 : decode cX12_best 69 = .ok (.iload 5, 2) := by decide +kernel
theorem dX12_best_71 : decode cX12_best 71 = .ok (.iload_n 3, 1) := by decide +kernel
theorem dX12_best_72 : decode cX12_best 72 = .ok (.if_icmp .ge 8, 3) := by decide +kernel
theorem dX12_best_75 : decode cX12_best 75 = .ok (.iload 5, 2) := by decide +kernel
theorem dX12_best_77 : decode cX12_best 77 = .ok (.goto 4, 3) := by decide +kernel
theorem dX12_best_80 : decode cX12_best 80 = .ok (.iload_n 3, 1) := by decide +kernel
theorem dX12_best_81 : decode cX12_best 81 = .ok (.istore_n 3, 1) := by decide +kernel
theorem dX12_best_82 : decode cX12_best 82 = .ok (.iinc 4 1, 3) := by decide +kernel
theorem dX12_best_85 : decode cX12_best 85 = .ok (.goto (-61), 3) := by decide +kernel
theorem dX12_best_88 : decode cX12_best 88 = .ok (.iload_n 2, 1) := by decide +kernel
theorem dX12_best_89 : decode cX12_best 89 = .ok (.ireturn, 1) := by decide +kernel
theorem dX12_leftBy_0 : decode cX12_leftBy 0 = .ok (.aload_n 0, 1) := by decide +kernel
theorem dX12_leftBy_1 : decode cX12_leftBy 1 = .ok (.iload_n 2, 1) := by decide +kernel
theorem dX12_leftBy_2 : decode cX12_leftBy 2 = .ok (.aload_n 0, 1) := by decide +kernel
theorem dX12_leftBy_3 : decode cX12_leftBy 3 = .ok (.getfield 19, 3) := by decide +kernel
theorem dX12_leftBy_6 : decode cX12_leftBy 6 = .ok (.bipush 12, 2) := by decide +kernel
theorem dX12_leftBy_8 : decode cX12_leftBy 8 = .ok (.iload_n 1, 1) := by decide +kernel
theorem dX12_leftBy_9 : decode cX12_leftBy 9 = .ok (.iadd, 1) := by decide +kernel
theorem dX12_leftBy_10 : decode cX12_leftBy 10 = .ok (.iaload, 1) := by decide +kernel
theorem dX12_leftBy_11 : decode cX12_leftBy 11 = .ok (.invokevirtual 159, 3) := by decide +kernel
theorem dX12_leftBy_14 : decode cX12_leftBy 14 = .ok (.ireturn, 1) := by decide +kernel
theorem dX12_layLeast_0 : decode cX12_layLeast 0 = .ok (.iconst 1, 1) := by decide +kernel
theorem dX12_layLeast_1 : decode cX12_layLeast 1 = .ok (.aload_n 0, 1) := by decide +kernel
theorem dX12_layLeast_2 : decode cX12_layLeast 2 = .ok (.getfield 72, 3) := by decide +kernel
theorem dX12_layLeast_5 : decode cX12_layLeast 5 = .ok (.ishl, 1) := by decide +kernel
theorem dX12_layLeast_6 : decode cX12_layLeast 6 = .ok (.istore_n 1, 1) := by decide +kernel
theorem dX12_layLeast_7 : decode cX12_layLeast 7 = .ok (.iconst 0, 1) := by decide +kernel
theorem dX12_layLeast_8 : decode cX12_layLeast 8 = .ok (.istore_n 2, 1) := by decide +kernel
theorem dX12_layLeast_9 : decode cX12_layLeast 9 = .ok (.iload_n 2, 1) := by decide +kernel
theorem dX12_layLeast_10 : decode cX12_layLeast 10 = .ok (.iload_n 1, 1) := by decide +kernel
theorem dX12_layLeast_11 : decode cX12_layLeast 11 = .ok (.if_icmp .ge 25, 3) := by decide +kernel
theorem dX12_layLeast_14 : decode cX12_layLeast 14 = .ok (.aload_n 0, 1) := by decide +kernel
theorem dX12_layLeast_15 : decode cX12_layLeast 15 = .ok (.getfield 47, 3) := by decide +kernel
theorem dX12_layLeast_18 : decode cX12_layLeast 18 = .ok (.sipush 128, 3) := by decide +kernel
theorem dX12_layLeast_21 : decode cX12_layLeast 21 = .ok (.aload_n 0, 1) := by decide +kernel
theorem dX12_layLeast_22 : decode cX12_layLeast 22 = .ok (.getfield 72, 3) := by decide +kernel
theorem dX12_layLeast_25 : decode cX12_layLeast 25 = .ok (.imul, 1) := by decide +kernel
theorem dX12_layLeast_26 : decode cX12_layLeast 26 = .ok (.iload_n 2, 1) := by decide +kernel
theorem dX12_layLeast_27 : decode cX12_layLeast 27 = .ok (.iadd, 1) := by decide +kernel
theorem dX12_layLeast_28 : decode cX12_layLeast 28 = .ok (.iconst 0, 1) := by decide +kernel
theorem dX12_layLeast_29 : decode cX12_layLeast 29 = .ok (.iastore, 1) := by decide +kernel
theorem dX12_layLeast_30 : decode cX12_layLeast 30 = .ok (.iinc 2 1, 3) := by decide +kernel
theorem dX12_layLeast_33 : decode cX12_layLeast 33 = .ok (.goto (-24), 3) := by decide +kernel
theorem dX12_layLeast_36 : decode cX12_layLeast 36 = .ok (.aload_n 0, 1) := by decide +kernel
theorem dX12_layLeast_37 : decode cX12_layLeast 37 = .ok (.getfield 72, 3) := by decide +kernel
theorem dX12_layLeast_40 : decode cX12_layLeast 40 = .ok (.iconst 1, 1) := by decide +kernel
theorem dX12_layLeast_41 : decode cX12_layLeast 41 = .ok (.isub, 1) := by decide +kernel
theorem dX12_layLeast_42 : decode cX12_layLeast 42 = .ok (.istore_n 2, 1) := by decide +kernel
theorem dX12_layLeast_43 : decode cX12_layLeast 43 = .ok (.iload_n 2, 1) := by decide +kernel
theorem dX12_layLeast_44 : decode cX12_layLeast 44 = .ok (.ifCond .lt 146, 3) := by decide +kernel
theorem dX12_layLeast_47 : decode cX12_layLeast 47 = .ok (.iconst 0, 1) := by decide +kernel
theorem dX12_layLeast_48 : decode cX12_layLeast 48 = .ok (.istore_n 3, 1) := by decide +kernel
theorem dX12_layLeast_49 : decode cX12_layLeast 49 = .ok (.iload_n 3, 1) := by decide +kernel
theorem dX12_layLeast_50 : decode cX12_layLeast 50 = .ok (.iload_n 1, 1) := by decide +kernel
theorem dX12_layLeast_51 : decode cX12_layLeast 51 = .ok (.if_icmp .ge 133, 3) := by decide +kernel
theorem dX12_layLeast_54 : decode cX12_layLeast 54 = .ok (.aload_n 0, 1) := by decide +kernel
theorem dX12_layLeast_55 : decode cX12_layLeast 55 = .ok (.getfield 19, 3) := by decide +kernel
theorem dX12_layLeast_58 : decode cX12_layLeast 58 = .ok (.bipush 12, 2) := by decide +kernel
theorem dX12_layLeast_60 : decode cX12_layLeast 60 = .ok (.iload_n 2, 1) := by decide +kernel
theorem dX12_layLeast_61 : decode cX12_layLeast 61 = .ok (.iadd, 1) := by decide +kernel
theorem dX12_layLeast_62 : decode cX12_layLeast 62 = .ok (.iaload, 1) := by decide +kernel
theorem dX12_layLeast_63 : decode cX12_layLeast 63 = .ok (.aload_n 0, 1) := by decide +kernel
theorem dX12_layLeast_64 : decode cX12_layLeast 64 = .ok (.getfield 47, 3) := by decide +kernel
theorem dX12_layLeast_67 : decode cX12_layLeast 67 = .ok (.sipush 128, 3) := by decide +kernel
theorem dX12_layLeast_70 : decode cX12_layLeast 70 = .ok (.iload_n 2, 1) := by decide +kernel
theorem dX12_layLeast_71 : decode cX12_layLeast 71 = .ok (.iconst 1, 1) := by decide +kernel
theorem dX12_layLeast_72 : decode cX12_layLeast 72 = .ok (.iadd, 1) := by decide +kernel
theorem dX12_layLeast_73 : decode cX12_layLeast 73 = .ok (.imul, 1) := by decide +kernel
theorem dX12_layLeast_74 : decode cX12_layLeast 74 = .ok (.iload_n 3, 1) := by decide +kernel
theorem dX12_layLeast_75 : decode cX12_layLeast 75 = .ok (.iadd, 1) := by decide +kernel
theorem dX12_layLeast_76 : decode cX12_layLeast 76 = .ok (.iaload, 1) := by decide +kernel
theorem dX12_layLeast_77 : decode cX12_layLeast 77 = .ok (.iadd, 1) := by decide +kernel
theorem dX12_layLeast_78 : decode cX12_layLeast 78 = .ok (.istore 4, 2) := by decide +kernel
theorem dX12_layLeast_80 : decode cX12_layLeast 80 = .ok (.iconst 0, 1) := by decide +kernel
theorem dX12_layLeast_81 : decode cX12_layLeast 81 = .ok (.istore 5, 2) := by decide +kernel
theorem dX12_layLeast_83 : decode cX12_layLeast 83 = .ok (.iload 5, 2) := by decide +kernel
theorem dX12_layLeast_85 : decode cX12_layLeast 85 = .ok (.aload_n 0, 1) := by decide +kernel
theorem dX12_layLeast_86 : decode cX12_layLeast 86 = .ok (.getfield 72, 3) := by decide +kernel
theorem dX12_layLeast_89 : decode cX12_layLeast 89 = .ok (.if_icmp .ge 75, 3) := by decide +kernel
theorem dX12_layLeast_92 : decode cX12_layLeast 92 = .ok (.aload_n 0, 1) := by decide +kernel
theorem dX12_layLeast_93 : decode cX12_layLeast 93 = .ok (.getfield 19, 3) := by decide +kernel
theorem dX12_layLeast_96 : decode cX12_layLeast 96 = .ok (.bipush 12, 2) := by decide +kernel
theorem dX12_layLeast_98 : decode cX12_layLeast 98 = .ok (.iload_n 2, 1) := by decide +kernel
theorem dX12_layLeast_99 : decode cX12_layLeast 99 = .ok (.iadd, 1) := by decide +kernel
theorem dX12_layLeast_100 : decode cX12_layLeast 100 = .ok (.iaload, 1) := by decide +kernel
theorem dX12_layLeast_101 : decode cX12_layLeast 101 = .ok (.ifCond .le 63, 3) := by decide +kernel
theorem dX12_layLeast_104 : decode cX12_layLeast 104 = .ok (.iload_n 3, 1) := by decide +kernel
theorem dX12_layLeast_105 : decode cX12_layLeast 105 = .ok (.iload 5, 2) := by decide +kernel
theorem dX12_layLeast_107 : decode cX12_layLeast 107 = .ok (.invokestatic 174, 3) := by decide +kernel
theorem dX12_layLeast_110 : decode cX12_layLeast 110 = .ok (.ifCond .ne 48, 3) := by decide +kernel
theorem dX12_layLeast_113 : decode cX12_layLeast 113 = .ok (.aload_n 0, 1) := by decide +kernel
theorem dX12_layLeast_114 : decode cX12_layLeast 114 = .ok (.iload_n 2, 1) := by decide +kernel
theorem dX12_layLeast_115 : decode cX12_layLeast 115 = .ok (.iload 5, 2) := by decide +kernel
theorem dX12_layLeast_117 : decode cX12_layLeast 117 = .ok (.invokevirtual 276, 3) := by decide +kernel
theorem dX12_layLeast_120 : decode cX12_layLeast 120 = .ok (.aload_n 0, 1) := by decide +kernel
theorem dX12_layLeast_121 : decode cX12_layLeast 121 = .ok (.getfield 47, 3) := by decide +kernel
theorem dX12_layLeast_124 : decode cX12_layLeast 124 = .ok (.sipush 128, 3) := by decide +kernel
theorem dX12_layLeast_127 : decode cX12_layLeast 127 = .ok (.iload_n 2, 1) := by decide +kernel
theorem dX12_layLeast_128 : decode cX12_layLeast 128 = .ok (.iconst 1, 1) := by decide +kernel
theorem dX12_layLeast_129 : decode cX12_layLeast 129 = .ok (.iadd, 1) := by decide +kernel
theorem dX12_layLeast_130 : decode cX12_layLeast 130 = .ok (.imul, 1) := by decide +kernel
theorem dX12_layLeast_131 : decode cX12_layLeast 131 = .ok (.iload_n 3, 1) := by decide +kernel
theorem dX12_layLeast_132 : decode cX12_layLeast 132 = .ok (.iconst 1, 1) := by decide +kernel
theorem dX12_layLeast_133 : decode cX12_layLeast 133 = .ok (.iload 5, 2) := by decide +kernel
theorem dX12_layLeast_135 : decode cX12_layLeast 135 = .ok (.ishl, 1) := by decide +kernel
theorem dX12_layLeast_136 : decode cX12_layLeast 136 = .ok (.ior, 1) := by decide +kernel
theorem dX12_layLeast_137 : decode cX12_layLeast 137 = .ok (.iadd, 1) := by decide +kernel
theorem dX12_layLeast_138 : decode cX12_layLeast 138 = .ok (.iaload, 1) := by decide +kernel
theorem dX12_layLeast_139 : decode cX12_layLeast 139 = .ok (.iadd, 1) := by decide +kernel
theorem dX12_layLeast_140 : decode cX12_layLeast 140 = .ok (.istore 6, 2) := by decide +kernel
theorem dX12_layLeast_142 : decode cX12_layLeast 142 = .ok (.iload 6, 2) := by decide +kernel
theorem dX12_layLeast_144 : decode cX12_layLeast 144 = .ok (.iload 4, 2) := by decide +kernel
theorem dX12_layLeast_146 : decode cX12_layLeast 146 = .ok (.if_icmp .ge 8, 3) := by decide +kernel
theorem dX12_layLeast_149 : decode cX12_layLeast 149 = .ok (.iload 6, 2) := by decide +kernel
theorem dX12_layLeast_151 : decode cX12_layLeast 151 = .ok (.goto 5, 3) := by decide +kernel
theorem dX12_layLeast_154 : decode cX12_layLeast 154 = .ok (.iload 4, 2) := by decide +kernel
theorem dX12_layLeast_156 : decode cX12_layLeast 156 = .ok (.istore 4, 2) := by decide +kernel
theorem dX12_layLeast_158 : decode cX12_layLeast 158 = .ok (.iinc 5 1, 3) := by decide +kernel
theorem dX12_layLeast_161 : decode cX12_layLeast 161 = .ok (.goto (-78), 3) := by decide +kernel
theorem dX12_layLeast_164 : decode cX12_layLeast 164 = .ok (.aload_n 0, 1) := by decide +kernel
theorem dX12_layLeast_165 : decode cX12_layLeast 165 = .ok (.getfield 47, 3) := by decide +kernel
theorem dX12_layLeast_168 : decode cX12_layLeast 168 = .ok (.sipush 128, 3) := by decide +kernel
theorem dX12_layLeast_171 : decode cX12_layLeast 171 = .ok (.iload_n 2, 1) := by decide +kernel
theorem dX12_layLeast_172 : decode cX12_layLeast 172 = .ok (.imul, 1) := by decide +kernel
theorem dX12_layLeast_173 : decode cX12_layLeast 173 = .ok (.iload_n 3, 1) := by decide +kernel
theorem dX12_layLeast_174 : decode cX12_layLeast 174 = .ok (.iadd, 1) := by decide +kernel
theorem dX12_layLeast_175 : decode cX12_layLeast 175 = .ok (.iload 4, 2) := by decide +kernel
theorem dX12_layLeast_177 : decode cX12_layLeast 177 = .ok (.iastore, 1) := by decide +kernel
theorem dX12_layLeast_178 : decode cX12_layLeast 178 = .ok (.iinc 3 1, 3) := by decide +kernel
theorem dX12_layLeast_181 : decode cX12_layLeast 181 = .ok (.goto (-132), 3) := by decide +kernel
theorem dX12_layLeast_184 : decode cX12_layLeast 184 = .ok (.iinc 2 (-1), 3) := by decide +kernel
theorem dX12_layLeast_187 : decode cX12_layLeast 187 = .ok (.goto (-144), 3) := by decide +kernel
theorem dX12_layLeast_190 : decode cX12_layLeast 190 = .ok (.return_, 1) := by decide +kernel
theorem dX12_goerFor_0 : decode cX12_goerFor 0 = .ok (.aload_n 0, 1) := by decide +kernel
theorem dX12_goerFor_1 : decode cX12_goerFor 1 = .ok (.getfield 19, 3) := by decide +kernel
theorem dX12_goerFor_4 : decode cX12_goerFor 4 = .ok (.iconst 3, 1) := by decide +kernel
theorem dX12_goerFor_5 : decode cX12_goerFor 5 = .ok (.iaload, 1) := by decide +kernel
theorem dX12_goerFor_6 : decode cX12_goerFor 6 = .ok (.istore_n 2, 1) := by decide +kernel
theorem dX12_goerFor_7 : decode cX12_goerFor 7 = .ok (.iconst (-1), 1) := by decide +kernel
theorem dX12_goerFor_8 : decode cX12_goerFor 8 = .ok (.istore_n 3, 1) := by decide +kernel
theorem dX12_goerFor_9 : decode cX12_goerFor 9 = .ok (.iconst 0, 1) := by decide +kernel
theorem dX12_goerFor_10 : decode cX12_goerFor 10 = .ok (.istore 4, 2) := by decide +kernel
theorem dX12_goerFor_12 : decode cX12_goerFor 12 = .ok (.iload 4, 2) := by decide +kernel
theorem dX12_goerFor_14 : decode cX12_goerFor 14 = .ok (.iload_n 1, 1) := by decide +kernel
theorem dX12_goerFor_15 : decode cX12_goerFor 15 = .ok (.if_icmp .gt 119, 3) := by decide +kernel
theorem dX12_goerFor_18 : decode cX12_goerFor 18 = .ok (.iconst (-1), 1) := by decide +kernel
theorem dX12_goerFor_19 : decode cX12_goerFor 19 = .ok (.istore_n 3, 1) := by decide +kernel
theorem dX12_goerFor_20 : decode cX12_goerFor 20 = .ok (.aload_n 0, 1) := by decide +kernel
theorem dX12_goerFor_21 : decode cX12_goerFor 21 = .ok (.getfield 47, 3) := by decide +kernel
theorem dX12_goerFor_24 : decode cX12_goerFor 24 = .ok (.sipush 128, 3) := by decide +kernel
theorem dX12_goerFor_27 : decode cX12_goerFor 27 = .ok (.iload 4, 2) := by decide +kernel
theorem dX12_goerFor_29 : decode cX12_goerFor 29 = .ok (.imul, 1) := by decide +kernel
theorem dX12_goerFor_30 : decode cX12_goerFor 30 = .ok (.iload_n 2, 1) := by decide +kernel
theorem dX12_goerFor_31 : decode cX12_goerFor 31 = .ok (.iadd, 1) := by decide +kernel
theorem dX12_goerFor_32 : decode cX12_goerFor 32 = .ok (.iaload, 1) := by decide +kernel
theorem dX12_goerFor_33 : decode cX12_goerFor 33 = .ok (.istore 5, 2) := by decide +kernel
theorem dX12_goerFor_35 : decode cX12_goerFor 35 = .ok (.aload_n 0, 1) := by decide +kernel
theorem dX12_goerFor_36 : decode cX12_goerFor 36 = .ok (.getfield 72, 3) := by decide +kernel
theorem dX12_goerFor_39 : decode cX12_goerFor 39 = .ok (.iconst 1, 1) := by decide +kernel
theorem dX12_goerFor_40 : decode cX12_goerFor 40 = .ok (.isub, 1) := by decide +kernel
theorem dX12_goerFor_41 : decode cX12_goerFor 41 = .ok (.istore 6, 2) := by decide +kernel
theorem dX12_goerFor_43 : decode cX12_goerFor 43 = .ok (.iload 6, 2) := by decide +kernel
theorem dX12_goerFor_45 : decode cX12_goerFor 45 = .ok (.ifCond .lt 68, 3) := by decide +kernel
theorem dX12_goerFor_48 : decode cX12_goerFor 48 = .ok (.aload_n 0, 1) := by decide +kernel
theorem dX12_goerFor_49 : decode cX12_goerFor 49 = .ok (.getfield 19, 3) := by decide +kernel
theorem dX12_goerFor_52 : decode cX12_goerFor 52 = .ok (.bipush 12, 2) := by decide +kernel
theorem dX12_goerFor_54 : decode cX12_goerFor 54 = .ok (.iload 4, 2) := by decide +kernel
theorem dX12_goerFor_56 : decode cX12_goerFor 56 = .ok (.iadd, 1) := by decide +kernel
theorem dX12_goerFor_57 : decode cX12_goerFor 57 = .ok (.iaload, 1) := by decide +kernel
theorem dX12_goerFor_58 : decode cX12_goerFor 58 = .ok (.ifCond .le 55, 3) := by decide +kernel
theorem dX12_goerFor_61 : decode cX12_goerFor 61 = .ok (.iload_n 2, 1) := by decide +kernel
theorem dX12_goerFor_62 : decode cX12_goerFor 62 = .ok (.iload 6, 2) := by decide +kernel
theorem dX12_goerFor_64 : decode cX12_goerFor 64 = .ok (.invokestatic 174, 3) := by decide +kernel
theorem dX12_goerFor_67 : decode cX12_goerFor 67 = .ok (.ifCond .ne 40, 3) := by decide +kernel
theorem dX12_goerFor_70 : decode cX12_goerFor 70 = .ok (.aload_n 0, 1) := by decide +kernel
theorem dX12_goerFor_71 : decode cX12_goerFor 71 = .ok (.iload 4, 2) := by decide +kernel
theorem dX12_goerFor_73 : decode cX12_goerFor 73 = .ok (.iload 6, 2) := by decide +kernel
theorem dX12_goerFor_75 : decode cX12_goerFor 75 = .ok (.invokevirtual 276, 3) := by decide +kernel
theorem dX12_goerFor_78 : decode cX12_goerFor 78 = .ok (.aload_n 0, 1) := by decide +kernel
theorem dX12_goerFor_79 : decode cX12_goerFor 79 = .ok (.getfield 47, 3) := by decide +kernel
theorem dX12_goerFor_82 : decode cX12_goerFor 82 = .ok (.sipush 128, 3) := by decide +kernel
theorem dX12_goerFor_85 : decode cX12_goerFor 85 = .ok (.iload 4, 2) := by decide +kernel
theorem dX12_goerFor_87 : decode cX12_goerFor 87 = .ok (.iconst 1, 1) := by decide +kernel
theorem dX12_goerFor_88 : decode cX12_goerFor 88 = .ok (.iadd, 1) := by decide +kernel
theorem dX12_goerFor_89 : decode cX12_goerFor 89 = .ok (.imul, 1) := by decide +kernel
theorem dX12_goerFor_90 : decode cX12_goerFor 90 = .ok (.iload_n 2, 1) := by decide +kernel
theorem dX12_goerFor_91 : decode cX12_goerFor 91 = .ok (.iconst 1, 1) := by decide +kernel
theorem dX12_goerFor_92 : decode cX12_goerFor 92 = .ok (.iload 6, 2) := by decide +kernel
theorem dX12_goerFor_94 : decode cX12_goerFor 94 = .ok (.ishl, 1) := by decide +kernel
theorem dX12_goerFor_95 : decode cX12_goerFor 95 = .ok (.ior, 1) := by decide +kernel
theorem dX12_goerFor_96 : decode cX12_goerFor 96 = .ok (.iadd, 1) := by decide +kernel
theorem dX12_goerFor_97 : decode cX12_goerFor 97 = .ok (.iaload, 1) := by decide +kernel
theorem dX12_goerFor_98 : decode cX12_goerFor 98 = .ok (.iadd, 1) := by decide +kernel
theorem dX12_goerFor_99 : decode cX12_goerFor 99 = .ok (.iload 5, 2) := by decide +kernel
theorem dX12_goerFor_101 : decode cX12_goerFor 101 = .ok (.if_icmp .ne 6, 3) := by decide +kernel
theorem dX12_goerFor_104 : decode cX12_goerFor 104 = .ok (.iload 6, 2) := by decide +kernel
theorem dX12_goerFor_106 : decode cX12_goerFor 106 = .ok (.istore_n 3, 1) := by decide +kernel
theorem dX12_goerFor_107 : decode cX12_goerFor 107 = .ok (.iinc 6 (-1), 3) := by decide +kernel
theorem dX12_goerFor_110 : decode cX12_goerFor 110 = .ok (.goto (-67), 3) := by decide +kernel
theorem dX12_goerFor_113 : decode cX12_goerFor 113 = .ok (.iload_n 2, 1) := by decide +kernel
theorem dX12_goerFor_114 : decode cX12_goerFor 114 = .ok (.iload_n 3, 1) := by decide +kernel
theorem dX12_goerFor_115 : decode cX12_goerFor 115 = .ok (.iconst (-1), 1) := by decide +kernel
theorem dX12_goerFor_116 : decode cX12_goerFor 116 = .ok (.if_icmp .ne 7, 3) := by decide +kernel
theorem dX12_goerFor_119 : decode cX12_goerFor 119 = .ok (.iconst 0, 1) := by decide +kernel
theorem dX12_goerFor_120 : decode cX12_goerFor 120 = .ok (.goto 6, 3) := by decide +kernel
theorem dX12_goerFor_123 : decode cX12_goerFor 123 = .ok (.iconst 1, 1) := by decide +kernel
theorem dX12_goerFor_124 : decode cX12_goerFor 124 = .ok (.iload_n 3, 1) := by decide +kernel
theorem dX12_goerFor_125 : decode cX12_goerFor 125 = .ok (.ishl, 1) := by decide +kernel
theorem dX12_goerFor_126 : decode cX12_goerFor 126 = .ok (.ior, 1) := by decide +kernel
theorem dX12_goerFor_127 : decode cX12_goerFor 127 = .ok (.istore_n 2, 1) := by decide +kernel
theorem dX12_goerFor_128 : decode cX12_goerFor 128 = .ok (.iinc 4 1, 3) := by decide +kernel
theorem dX12_goerFor_131 : decode cX12_goerFor 131 = .ok (.goto (-119), 3) := by decide +kernel
theorem dX12_goerFor_134 : decode cX12_goerFor 134 = .ok (.iload_n 3, 1) := by decide +kernel
theorem dX12_goerFor_135 : decode cX12_goerFor 135 = .ok (.ireturn, 1) := by decide +kernel
theorem dX12_match_0 : decode cX12_match 0 = .ok (.iload_n 1, 1) := by decide +kernel
theorem dX12_match_1 : decode cX12_match 1 = .ok (.iconst (-1), 1) := by decide +kernel
theorem dX12_match_2 : decode cX12_match 2 = .ok (.if_icmp .eq 14, 3) := by decide +kernel
theorem dX12_match_5 : decode cX12_match 5 = .ok (.aload_n 0, 1) := by decide +kernel
theorem dX12_match_6 : decode cX12_match 6 = .ok (.iload_n 1, 1) := by decide +kernel
theorem dX12_match_7 : decode cX12_match 7 = .ok (.invokevirtual 215, 3) := by decide +kernel
theorem dX12_match_10 : decode cX12_match 10 = .ok (.ifCond .ne 6, 3) := by decide +kernel
theorem dX12_match_13 : decode cX12_match 13 = .ok (.ldc 219, 2) := by decide +kernel
theorem dX12_match_15 : decode cX12_match 15 = .ok (.ireturn, 1) := by decide +kernel
theorem dX12_match_16 : decode cX12_match 16 = .ok (.aload_n 0, 1) := by decide +kernel
theorem dX12_match_17 : decode cX12_match 17 = .ok (.invokevirtual 279, 3) := by decide +kernel
theorem dX12_match_20 : decode cX12_match 20 = .ok (.iload_n 1, 1) := by decide +kernel
theorem dX12_match_21 : decode cX12_match 21 = .ok (.iconst (-1), 1) := by decide +kernel
theorem dX12_match_22 : decode cX12_match 22 = .ok (.if_icmp .ne 17, 3) := by decide +kernel
theorem dX12_match_25 : decode cX12_match 25 = .ok (.aload_n 0, 1) := by decide +kernel
theorem dX12_match_26 : decode cX12_match 26 = .ok (.getfield 47, 3) := by decide +kernel
theorem dX12_match_29 : decode cX12_match 29 = .ok (.aload_n 0, 1) := by decide +kernel
theorem dX12_match_30 : decode cX12_match 30 = .ok (.getfield 19, 3) := by decide +kernel
theorem dX12_match_33 : decode cX12_match 33 = .ok (.iconst 3, 1) := by decide +kernel
theorem dX12_match_34 : decode cX12_match 34 = .ok (.iaload, 1) := by decide +kernel
theorem dX12_match_35 : decode cX12_match 35 = .ok (.iaload, 1) := by decide +kernel
theorem dX12_match_36 : decode cX12_match 36 = .ok (.goto 8, 3) := by decide +kernel
theorem dX12_match_39 : decode cX12_match 39 = .ok (.aload_n 0, 1) := by decide +kernel
theorem dX12_match_40 : decode cX12_match 40 = .ok (.iload_n 1, 1) := by decide +kernel
theorem dX12_match_41 : decode cX12_match 41 = .ok (.invokevirtual 282, 3) := by decide +kernel
theorem dX12_match_44 : decode cX12_match 44 = .ok (.ireturn, 1) := by decide +kernel
theorem dX12_levelOf_0 : decode cX12_levelOf 0 = .ok (.iconst 0, 1) := by decide +kernel
theorem dX12_levelOf_1 : decode cX12_levelOf 1 = .ok (.istore_n 2, 1) := by decide +kernel
theorem dX12_levelOf_2 : decode cX12_levelOf 2 = .ok (.iconst 0, 1) := by decide +kernel
theorem dX12_levelOf_3 : decode cX12_levelOf 3 = .ok (.istore_n 3, 1) := by decide +kernel
theorem dX12_levelOf_4 : decode cX12_levelOf 4 = .ok (.iload_n 3, 1) := by decide +kernel
theorem dX12_levelOf_5 : decode cX12_levelOf 5 = .ok (.iload_n 1, 1) := by decide +kernel
theorem dX12_levelOf_6 : decode cX12_levelOf 6 = .ok (.if_icmp .ge 22, 3) := by decide +kernel
theorem dX12_levelOf_9 : decode cX12_levelOf 9 = .ok (.iload_n 2, 1) := by decide +kernel
theorem dX12_levelOf_10 : decode cX12_levelOf 10 = .ok (.bipush 100, 2) := by decide +kernel
theorem dX12_levelOf_12 : decode cX12_levelOf 12 = .ok (.if_icmp .ge 16, 3) := by decide +kernel
theorem dX12_levelOf_15 : decode cX12_levelOf 15 = .ok (.iinc 2 1, 3) := by decide +kernel
theorem dX12_levelOf_18 : decode cX12_levelOf 18 = .ok (.aload_n 0, 1) := by decide +kernel
theorem dX12_levelOf_19 : decode cX12_levelOf 19 = .ok (.iload_n 2, 1) := by decide +kernel
theorem dX12_levelOf_20 : decode cX12_levelOf 20 = .ok (.iconst (-1), 1) := by decide +kernel
theorem dX12_levelOf_21 : decode cX12_levelOf 21 = .ok (.invokevirtual 285, 3) := by decide +kernel
theorem dX12_levelOf_24 : decode cX12_levelOf 24 = .ok (.istore_n 3, 1) := by decide +kernel
theorem dX12_levelOf_25 : decode cX12_levelOf 25 = .ok (.goto (-21), 3) := by decide +kernel
theorem dX12_levelOf_28 : decode cX12_levelOf 28 = .ok (.iload_n 3, 1) := by decide +kernel
theorem dX12_levelOf_29 : decode cX12_levelOf 29 = .ok (.iload_n 1, 1) := by decide +kernel
theorem dX12_levelOf_30 : decode cX12_levelOf 30 = .ok (.if_icmp .ge 7, 3) := by decide +kernel
theorem dX12_levelOf_33 : decode cX12_levelOf 33 = .ok (.iconst (-1), 1) := by decide +kernel
theorem dX12_levelOf_34 : decode cX12_levelOf 34 = .ok (.goto 4, 3) := by decide +kernel
theorem dX12_levelOf_37 : decode cX12_levelOf 37 = .ok (.iload_n 2, 1) := by decide +kernel
theorem dX12_levelOf_38 : decode cX12_levelOf 38 = .ok (.ireturn, 1) := by decide +kernel
theorem dX12_sumAt_0 : decode cX12_sumAt 0 = .ok (.iconst 0, 1) := by decide +kernel
theorem dX12_sumAt_1 : decode cX12_sumAt 1 = .ok (.istore_n 3, 1) := by decide +kernel
theorem dX12_sumAt_2 : decode cX12_sumAt 2 = .ok (.iload_n 2, 1) := by decide +kernel
theorem dX12_sumAt_3 : decode cX12_sumAt 3 = .ok (.iconst 1, 1) := by decide +kernel
theorem dX12_sumAt_4 : decode cX12_sumAt 4 = .ok (.iadd, 1) := by decide +kernel
theorem dX12_sumAt_5 : decode cX12_sumAt 5 = .ok (.istore 4, 2) := by decide +kernel
theorem dX12_sumAt_7 : decode cX12_sumAt 7 = .ok (.iload 4, 2) := by decide +kernel
theorem dX12_sumAt_9 : decode cX12_sumAt 9 = .ok (.aload_n 0, 1) := by decide +kernel
theorem dX12_sumAt_10 : decode cX12_sumAt 10 = .ok (.getfield 79, 3) := by decide +kernel
theorem dX12_sumAt_13 : decode cX12_sumAt 13 = .ok (.if_icmp .ge 40, 3) := by decide +kernel
theorem dX12_sumAt_16 : decode cX12_sumAt 16 = .ok (.iload_n 3, 1) := by decide +kernel
theorem dX12_sumAt_17 : decode cX12_sumAt 17 = .ok (.aload_n 0, 1) := by decide +kernel
theorem dX12_sumAt_18 : decode cX12_sumAt 18 = .ok (.getfield 19, 3) := by decide +kernel
theorem dX12_sumAt_21 : decode cX12_sumAt 21 = .ok (.bipush 26, 2) := by decide +kernel
theorem dX12_sumAt_23 : decode cX12_sumAt 23 = .ok (.iload 4, 2) := by decide +kernel
theorem dX12_sumAt_25 : decode cX12_sumAt 25 = .ok (.iadd, 1) := by decide +kernel
theorem dX12_sumAt_26 : decode cX12_sumAt 26 = .ok (.iaload, 1) := by decide +kernel
theorem dX12_sumAt_27 : decode cX12_sumAt 27 = .ok (.iload_n 1, 1) := by decide +kernel
theorem dX12_sumAt_28 : decode cX12_sumAt 28 = .ok (.if_icmp .ge 16, 3) := by decide +kernel
theorem dX12_sumAt_31 : decode cX12_sumAt 31 = .ok (.aload_n 0, 1) := by decide +kernel
theorem dX12_sumAt_32 : decode cX12_sumAt 32 = .ok (.getfield 19, 3) := by decide +kernel
theorem dX12_sumAt_35 : decode cX12_sumAt 35 = .ok (.bipush 26, 2) := by decide +kernel
theorem dX12_sumAt_37 : decode cX12_sumAt 37 = .ok (.iload 4, 2) := by decide +kernel
theorem dX12_sumAt_39 : decode cX12_sumAt 39 = .ok (.iadd, 1) := by decide +kernel
theorem dX12_sumAt_40 : decode cX12_sumAt 40 = .ok (.iaload, 1) := by decide +kernel
theorem dX12_sumAt_41 : decode cX12_sumAt 41 = .ok (.goto 4, 3) := by decide +kernel
theorem dX12_sumAt_44 : decode cX12_sumAt 44 = .ok (.iload_n 1, 1) := by decide +kernel
theorem dX12_sumAt_45 : decode cX12_sumAt 45 = .ok (.iadd, 1) := by decide +kernel
theorem dX12_sumAt_46 : decode cX12_sumAt 46 = .ok (.istore_n 3, 1) := by decide +kernel
theorem dX12_sumAt_47 : decode cX12_sumAt 47 = .ok (.iinc 4 1, 3) := by decide +kernel
theorem dX12_sumAt_50 : decode cX12_sumAt 50 = .ok (.goto (-43), 3) := by decide +kernel
theorem dX12_sumAt_53 : decode cX12_sumAt 53 = .ok (.iload_n 3, 1) := by decide +kernel
theorem dX12_sumAt_54 : decode cX12_sumAt 54 = .ok (.ireturn, 1) := by decide +kernel
theorem dX12_shares_0 : decode cX12_shares 0 = .ok (.aload_n 0, 1) := by decide +kernel
theorem dX12_shares_1 : decode cX12_shares 1 = .ok (.iload_n 2, 1) := by decide +kernel
theorem dX12_shares_2 : decode cX12_shares 2 = .ok (.invokevirtual 226, 3) := by decide +kernel
theorem dX12_shares_5 : decode cX12_shares 5 = .ok (.ifCond .ne 6, 3) := by decide +kernel
theorem dX12_shares_8 : decode cX12_shares 8 = .ok (.ldc 219, 2) := by decide +kernel
theorem dX12_shares_10 : decode cX12_shares 10 = .ok (.ireturn, 1) := by decide +kernel
theorem dX12_shares_11 : decode cX12_shares 11 = .ok (.iload_n 1, 1) := by decide +kernel
theorem dX12_shares_12 : decode cX12_shares 12 = .ok (.i2l, 1) := by decide +kernel
theorem dX12_shares_13 : decode cX12_shares 13 = .ok (.lconst 0, 1) := by decide +kernel
theorem dX12_shares_14 : decode cX12_shares 14 = .ok (.ldc2_w 288, 3) := by decide +kernel
theorem dX12_shares_17 : decode cX12_shares 17 = .ok (.invokestatic 75, 3) := by decide +kernel
theorem dX12_shares_20 : decode cX12_shares 20 = .ok (.ifCond .ne 6, 3) := by decide +kernel
theorem dX12_shares_23 : decode cX12_shares 23 = .ok (.ldc 84, 2) := by decide +kernel
theorem dX12_shares_25 : decode cX12_shares 25 = .ok (.ireturn, 1) := by decide +kernel
theorem dX12_shares_26 : decode cX12_shares 26 = .ok (.aload_n 0, 1) := by decide +kernel
theorem dX12_shares_27 : decode cX12_shares 27 = .ok (.iload_n 1, 1) := by decide +kernel
theorem dX12_shares_28 : decode cX12_shares 28 = .ok (.invokevirtual 290, 3) := by decide +kernel
theorem dX12_shares_31 : decode cX12_shares 31 = .ok (.istore_n 3, 1) := by decide +kernel
theorem dX12_shares_32 : decode cX12_shares 32 = .ok (.iload_n 3, 1) := by decide +kernel
theorem dX12_shares_33 : decode cX12_shares 33 = .ok (.iconst (-1), 1) := by decide +kernel
theorem dX12_shares_34 : decode cX12_shares 34 = .ok (.if_icmp .ne 5, 3) := by decide +kernel
theorem dX12_shares_37 : decode cX12_shares 37 = .ok (.iconst (-1), 1) := by decide +kernel
theorem dX12_shares_38 : decode cX12_shares 38 = .ok (.ireturn, 1) := by decide +kernel
theorem dX12_shares_39 : decode cX12_shares 39 = .ok (.iload_n 1, 1) := by decide +kernel
theorem dX12_shares_40 : decode cX12_shares 40 = .ok (.istore 4, 2) := by decide +kernel
theorem dX12_shares_42 : decode cX12_shares 42 = .ok (.iconst 0, 1) := by decide +kernel
theorem dX12_shares_43 : decode cX12_shares 43 = .ok (.istore 5, 2) := by decide +kernel
theorem dX12_shares_45 : decode cX12_shares 45 = .ok (.iconst 0, 1) := by decide +kernel
theorem dX12_shares_46 : decode cX12_shares 46 = .ok (.istore 6, 2) := by decide +kernel
theorem dX12_shares_48 : decode cX12_shares 48 = .ok (.iload 6, 2) := by decide +kernel
theorem dX12_shares_50 : decode cX12_shares 50 = .ok (.iload_n 2, 1) := by decide +kernel
theorem dX12_shares_51 : decode cX12_shares 51 = .ok (.if_icmp .gt 41, 3) := by decide +kernel
theorem dX12_shares_54 : decode cX12_shares 54 = .ok (.iload 4, 2) := by decide +kernel
theorem dX12_shares_56 : decode cX12_shares 56 = .ok (.aload_n 0, 1) := by decide +kernel
theorem dX12_shares_57 : decode cX12_shares 57 = .ok (.iload_n 3, 1) := by decide +kernel
theorem dX12_shares_58 : decode cX12_shares 58 = .ok (.iload 6, 2) := by decide +kernel
theorem dX12_shares_60 : decode cX12_shares 60 = .ok (.invokevirtual 285, 3) := by decide +kernel
theorem dX12_shares_63 : decode cX12_shares 63 = .ok (.isub, 1) := by decide +kernel
theorem dX12_shares_64 : decode cX12_shares 64 = .ok (.istore 5, 2) := by decide +kernel
theorem dX12_shares_66 : decode cX12_shares 66 = .ok (.iload 5, 2) := by decide +kernel
theorem dX12_shares_68 : decode cX12_shares 68 = .ok (.ifCond .ge 7, 3) := by decide +kernel
theorem dX12_shares_71 : decode cX12_shares 71 = .ok (.iconst 0, 1) := by decide +kernel
theorem dX12_shares_72 : decode cX12_shares 72 = .ok (.goto 5, 3) := by decide +kernel
theorem dX12_shares_75 : decode cX12_shares 75 = .ok (.iload 5, 2) := by decide +kernel
theorem dX12_shares_77 : decode cX12_shares 77 = .ok (.istore 5, 2) := by decide +kernel
theorem dX12_shares_79 : decode cX12_shares 79 = .ok (.iload 4, 2) := by decide +kernel
theorem dX12_shares_81 : decode cX12_shares 81 = .ok (.iload 5, 2) := by decide +kernel
theorem dX12_shares_83 : decode cX12_shares 83 = .ok (.isub, 1) := by decide +kernel
theorem dX12_shares_84 : decode cX12_shares 84 = .ok (.istore 4, 2) := by decide +kernel
theorem dX12_shares_86 : decode cX12_shares 86 = .ok (.iinc 6 1, 3) := by decide +kernel
theorem dX12_shares_89 : decode cX12_shares 89 = .ok (.goto (-41), 3) := by decide +kernel
theorem dX12_shares_92 : decode cX12_shares 92 = .ok (.iload 5, 2) := by decide +kernel
theorem dX12_shares_94 : decode cX12_shares 94 = .ok (.ireturn, 1) := by decide +kernel
theorem dX12_dry_0 : decode cX12_dry 0 = .ok (.iload_n 1, 1) := by decide +kernel
theorem dX12_dry_1 : decode cX12_dry 1 = .ok (.i2l, 1) := by decide +kernel
theorem dX12_dry_2 : decode cX12_dry 2 = .ok (.lconst 0, 1) := by decide +kernel
theorem dX12_dry_3 : decode cX12_dry 3 = .ok (.ldc2_w 251, 3) := by decide +kernel
theorem dX12_dry_6 : decode cX12_dry 6 = .ok (.invokestatic 75, 3) := by decide +kernel
theorem dX12_dry_9 : decode cX12_dry 9 = .ok (.ifCond .eq 15, 3) := by decide +kernel
theorem dX12_dry_12 : decode cX12_dry 12 = .ok (.iload_n 2, 1) := by decide +kernel
theorem dX12_dry_13 : decode cX12_dry 13 = .ok (.i2l, 1) := by decide +kernel
theorem dX12_dry_14 : decode cX12_dry 14 = .ok (.lconst 0, 1) := by decide +kernel
theorem dX12_dry_15 : decode cX12_dry 15 = .ok (.ldc2_w 293, 3) := by decide +kernel
theorem dX12_dry_18 : decode cX12_dry 18 = .ok (.invokestatic 75, 3) := by decide +kernel
theorem dX12_dry_21 : decode cX12_dry 21 = .ok (.ifCond .ne 6, 3) := by decide +kernel
theorem dX12_dry_24 : decode cX12_dry 24 = .ok (.ldc 84, 2) := by decide +kernel
theorem dX12_dry_26 : decode cX12_dry 26 = .ok (.ireturn, 1) := by decide +kernel
theorem dX12_dry_27 : decode cX12_dry 27 = .ok (.ldc2_w 295, 3) := by decide +kernel
theorem dX12_dry_30 : decode cX12_dry 30 = .ok (.lstore_n 3, 1) := by decide +kernel
theorem dX12_dry_31 : decode cX12_dry 31 = .ok (.iconst 0, 1) := by decide +kernel
theorem dX12_dry_32 : decode cX12_dry 32 = .ok (.istore 5, 2) := by decide +kernel
theorem dX12_dry_34 : decode cX12_dry 34 = .ok (.iload 5, 2) := by decide +kernel
theorem dX12_dry_36 : decode cX12_dry 36 = .ok (.iload_n 1, 1) := by decide +kernel
theorem dX12_dry_37 : decode cX12_dry 37 = .ok (.if_icmp .ge 18, 3) := by decide +kernel
theorem dX12_dry_40 : decode cX12_dry 40 = .ok (.lload_n 3, 1) := by decide +kernel
theorem dX12_dry_41 : decode cX12_dry 41 = .ok (.iload_n 2, 1) := by decide +kernel
theorem dX12_dry_42 : decode cX12_dry 42 = .ok (.i2l, 1) := by decide +kernel
theorem dX12_dry_43 : decode cX12_dry 43 = .ok (.lmul, 1) := by decide +kernel
theorem dX12_dry_44 : decode cX12_dry 44 = .ok (.ldc2_w 293, 3) := by decide +kernel
theorem dX12_dry_47 : decode cX12_dry 47 = .ok (.ldiv, 1) := by decide +kernel
theorem dX12_dry_48 : decode cX12_dry 48 = .ok (.lstore_n 3, 1) := by decide +kernel
theorem dX12_dry_49 : decode cX12_dry 49 = .ok (.iinc 5 1, 3) := by decide +kernel
theorem dX12_dry_52 : decode cX12_dry 52 = .ok (.goto (-18), 3) := by decide +kernel
theorem dX12_dry_55 : decode cX12_dry 55 = .ok (.lload_n 3, 1) := by decide +kernel
theorem dX12_dry_56 : decode cX12_dry 56 = .ok (.l2i, 1) := by decide +kernel
theorem dX12_dry_57 : decode cX12_dry 57 = .ok (.ireturn, 1) := by decide +kernel
theorem dX12_returned_0 : decode cX12_returned 0 = .ok (.iload_n 1, 1) := by decide +kernel
theorem dX12_returned_1 : decode cX12_returned 1 = .ok (.i2l, 1) := by decide +kernel
theorem dX12_returned_2 : decode cX12_returned 2 = .ok (.lconst 0, 1) := by decide +kernel
theorem dX12_returned_3 : decode cX12_returned 3 = .ok (.ldc2_w 288, 3) := by decide +kernel
theorem dX12_returned_6 : decode cX12_returned 6 = .ok (.invokestatic 75, 3) := by decide +kernel
theorem dX12_returned_9 : decode cX12_returned 9 = .ok (.ifCond .ne 6, 3) := by decide +kernel
theorem dX12_returned_12 : decode cX12_returned 12 = .ok (.ldc 84, 2) := by decide +kernel
theorem dX12_returned_14 : decode cX12_returned 14 = .ok (.ireturn, 1) := by decide +kernel
theorem dX12_returned_15 : decode cX12_returned 15 = .ok (.aload_n 0, 1) := by decide +kernel
theorem dX12_returned_16 : decode cX12_returned 16 = .ok (.invokevirtual 253, 3) := by decide +kernel
theorem dX12_returned_19 : decode cX12_returned 19 = .ok (.ifCond .ne 6, 3) := by decide +kernel
theorem dX12_returned_22 : decode cX12_returned 22 = .ok (.ldc 246, 2) := by decide +kernel
theorem dX12_returned_24 : decode cX12_returned 24 = .ok (.ireturn, 1) := by decide +kernel
theorem dX12_returned_25 : decode cX12_returned 25 = .ok (.aload_n 0, 1) := by decide +kernel
theorem dX12_returned_26 : decode cX12_returned 26 = .ok (.getfield 144, 3) := by decide +kernel
theorem dX12_returned_29 : decode cX12_returned 29 = .ok (.bipush 6, 2) := by decide +kernel
theorem dX12_returned_31 : decode cX12_returned 31 = .ok (.if_icmp .ne 6, 3) := by decide +kernel
theorem dX12_returned_34 : decode cX12_returned 34 = .ok (.ldc 88, 2) := by decide +kernel
theorem dX12_returned_36 : decode cX12_returned 36 = .ok (.ireturn, 1) := by decide +kernel
theorem dX12_returned_37 : decode cX12_returned 37 = .ok (.aload_n 0, 1) := by decide +kernel
theorem dX12_returned_38 : decode cX12_returned 38 = .ok (.getfield 50, 3) := by decide +kernel
theorem dX12_returned_41 : decode cX12_returned 41 = .ok (.aload_n 0, 1) := by decide +kernel
theorem dX12_returned_42 : decode cX12_returned 42 = .ok (.getfield 144, 3) := by decide +kernel
theorem dX12_returned_45 : decode cX12_returned 45 = .ok (.iload_n 1, 1) := by decide +kernel
theorem dX12_returned_46 : decode cX12_returned 46 = .ok (.iastore, 1) := by decide +kernel
theorem dX12_returned_47 : decode cX12_returned 47 = .ok (.iconst 0, 1) := by decide +kernel
theorem dX12_returned_48 : decode cX12_returned 48 = .ok (.istore_n 2, 1) := by decide +kernel
theorem dX12_returned_49 : decode cX12_returned 49 = .ok (.iload_n 2, 1) := by decide +kernel
theorem dX12_returned_50 : decode cX12_returned 50 = .ok (.iconst 4, 1) := by decide +kernel
theorem dX12_returned_51 : decode cX12_returned 51 = .ok (.if_icmp .ge 31, 3) := by decide +kernel
theorem dX12_returned_54 : decode cX12_returned 54 = .ok (.aload_n 0, 1) := by decide +kernel
theorem dX12_returned_55 : decode cX12_returned 55 = .ok (.getfield 53, 3) := by decide +kernel
theorem dX12_returned_58 : decode cX12_returned 58 = .ok (.iconst 4, 1) := by decide +kernel
theorem dX12_returned_59 : decode cX12_returned 59 = .ok (.aload_n 0, 1) := by decide +kernel
theorem dX12_returned_60 : decode cX12_returned 60 = .ok (.getfield 144, 3) := by decide +kernel
theorem dX12_returned_63 : decode cX12_returned 63 = .ok (.imul, 1) := by decide +kernel
theorem dX12_returned_64 : decode cX12_returned 64 = .ok (.iload_n 2, 1) := by decide +kernel
theorem dX12_returned_65 : decode cX12_returned 65 = .ok (.iadd, 1) := by decide +kernel
theorem dX12_returned_66 : decode cX12_returned 66 = .ok (.aload_n 0, 1) := by decide +kernel
theorem dX12_returned_67 : decode cX12_returned 67 = .ok (.getfield 19, 3) := by decide +kernel
theorem dX12_returned_70 : decode cX12_returned 70 = .ok (.bipush 26, 2) := by decide +kernel
theorem dX12_returned_72 : decode cX12_returned 72 = .ok (.iload_n 2, 1) := by decide +kernel
theorem dX12_returned_73 : decode cX12_returned 73 = .ok (.iadd, 1) := by decide +kernel
theorem dX12_returned_74 : decode cX12_returned 74 = .ok (.iaload, 1) := by decide +kernel
theorem dX12_returned_75 : decode cX12_returned 75 = .ok (.iastore, 1) := by decide +kernel
theorem dX12_returned_76 : decode cX12_returned 76 = .ok (.iinc 2 1, 3) := by decide +kernel
theorem dX12_returned_79 : decode cX12_returned 79 = .ok (.goto (-30), 3) := by decide +kernel
theorem dX12_returned_82 : decode cX12_returned 82 = .ok (.aload_n 0, 1) := by decide +kernel
theorem dX12_returned_83 : decode cX12_returned 83 = .ok (.dup, 1) := by decide +kernel
theorem dX12_returned_84 : decode cX12_returned 84 = .ok (.getfield 144, 3) := by decide +kernel
theorem dX12_returned_87 : decode cX12_returned 87 = .ok (.iconst 1, 1) := by decide +kernel
theorem dX12_returned_88 : decode cX12_returned 88 = .ok (.iadd, 1) := by decide +kernel
theorem dX12_returned_89 : decode cX12_returned 89 = .ok (.putfield 144, 3) := by decide +kernel
theorem dX12_returned_92 : decode cX12_returned 92 = .ok (.aload_n 0, 1) := by decide +kernel
theorem dX12_returned_93 : decode cX12_returned 93 = .ok (.getfield 144, 3) := by decide +kernel
theorem dX12_returned_96 : decode cX12_returned 96 = .ok (.ireturn, 1) := by decide +kernel
theorem dX12_mayBe_0 : decode cX12_mayBe 0 = .ok (.aload_n 0, 1) := by decide +kernel
theorem dX12_mayBe_1 : decode cX12_mayBe 1 = .ok (.invokevirtual 253, 3) := by decide +kernel
theorem dX12_mayBe_4 : decode cX12_mayBe 4 = .ok (.istore_n 2, 1) := by decide +kernel
theorem dX12_mayBe_5 : decode cX12_mayBe 5 = .ok (.iconst 0, 1) := by decide +kernel
theorem dX12_mayBe_6 : decode cX12_mayBe 6 = .ok (.istore_n 3, 1) := by decide +kernel
theorem dX12_mayBe_7 : decode cX12_mayBe 7 = .ok (.iload_n 3, 1) := by decide +kernel
theorem dX12_mayBe_8 : decode cX12_mayBe 8 = .ok (.aload_n 0, 1) := by decide +kernel
theorem dX12_mayBe_9 : decode cX12_mayBe 9 = .ok (.getfield 144, 3) := by decide +kernel
theorem dX12_mayBe_12 : decode cX12_mayBe 12 = .ok (.if_icmp .ge 80, 3) := by decide +kernel
theorem dX12_mayBe_15 : decode cX12_mayBe 15 = .ok (.iload_n 2, 1) := by decide +kernel
theorem dX12_mayBe_16 : decode cX12_mayBe 16 = .ok (.ifCond .eq 76, 3) := by decide +kernel
theorem dX12_mayBe_19 : decode cX12_mayBe 19 = .ok (.iconst 0, 1) := by decide +kernel
theorem dX12_mayBe_20 : decode cX12_mayBe 20 = .ok (.istore 4, 2) := by decide +kernel
theorem dX12_mayBe_22 : decode cX12_mayBe 22 = .ok (.iconst 0, 1) := by decide +kernel
theorem dX12_mayBe_23 : decode cX12_mayBe 23 = .ok (.istore 5, 2) := by decide +kernel
theorem dX12_mayBe_25 : decode cX12_mayBe 25 = .ok (.iload 5, 2) := by decide +kernel
theorem dX12_mayBe_27 : decode cX12_mayBe 27 = .ok (.aload_n 0, 1) := by decide +kernel
theorem dX12_mayBe_28 : decode cX12_mayBe 28 = .ok (.getfield 79, 3) := by decide +kernel
theorem dX12_mayBe_31 : decode cX12_mayBe 31 = .ok (.if_icmp .ge 38, 3) := by decide +kernel
theorem dX12_mayBe_34 : decode cX12_mayBe 34 = .ok (.iload 4, 2) := by decide +kernel
theorem dX12_mayBe_36 : decode cX12_mayBe 36 = .ok (.iload_n 1, 1) := by decide +kernel
theorem dX12_mayBe_37 : decode cX12_mayBe 37 = .ok (.iload 5, 2) := by decide +kernel
theorem dX12_mayBe_39 : decode cX12_mayBe 39 = .ok (.invokestatic 174, 3) := by decide +kernel
theorem dX12_mayBe_42 : decode cX12_mayBe 42 = .ok (.ifCond .eq 17, 3) := by decide +kernel
theorem dX12_mayBe_45 : decode cX12_mayBe 45 = .ok (.aload_n 0, 1) := by decide +kernel
theorem dX12_mayBe_46 : decode cX12_mayBe 46 = .ok (.getfield 53, 3) := by decide +kernel
theorem dX12_mayBe_49 : decode cX12_mayBe 49 = .ok (.iconst 4, 1) := by decide +kernel
theorem dX12_mayBe_50 : decode cX12_mayBe 50 = .ok (.iload_n 3, 1) := by decide +kernel
theorem dX12_mayBe_51 : decode cX12_mayBe 51 = .ok (.imul, 1) := by decide +kernel
theorem dX12_mayBe_52 : decode cX12_mayBe 52 = .ok (.iload 5, 2) := by decide +kernel
theorem dX12_mayBe_54 : decode cX12_mayBe 54 = .ok (.iadd, 1) := by decide +kernel
theorem dX12_mayBe_55 : decode cX12_mayBe 55 = .ok (.iaload, 1) := by decide +kernel
theorem dX12_mayBe_56 : decode cX12_mayBe 56 = .ok (.goto 4, 3) := by decide +kernel
theorem dX12_mayBe_59 : decode cX12_mayBe 59 = .ok (.iconst 0, 1) := by decide +kernel
theorem dX12_mayBe_60 : decode cX12_mayBe 60 = .ok (.iadd, 1) := by decide +kernel
theorem dX12_mayBe_61 : decode cX12_mayBe 61 = .ok (.istore 4, 2) := by decide +kernel
theorem dX12_mayBe_63 : decode cX12_mayBe 63 = .ok (.iinc 5 1, 3) := by decide +kernel
theorem dX12_mayBe_66 : decode cX12_mayBe 66 = .ok (.goto (-41), 3) := by decide +kernel
theorem dX12_mayBe_69 : decode cX12_mayBe 69 = .ok (.iload 4, 2) := by decide +kernel
theorem dX12_mayBe_71 : decode cX12_mayBe 71 = .ok (.aload_n 0, 1) := by decide +kernel
theorem dX12_mayBe_72 : decode cX12_mayBe 72 = .ok (.getfield 50, 3) := by decide +kernel
theorem dX12_mayBe_75 : decode cX12_mayBe 75 = .ok (.iload_n 3, 1) := by decide +kernel
theorem dX12_mayBe_76 : decode cX12_mayBe 76 = .ok (.iaload, 1) := by decide +kernel
theorem dX12_mayBe_77 : decode cX12_mayBe 77 = .ok (.if_icmp .ne 7, 3) := by decide +kernel
theorem dX12_mayBe_80 : decode cX12_mayBe 80 = .ok (.iconst 1, 1) := by decide +kernel
theorem dX12_mayBe_81 : decode cX12_mayBe 81 = .ok (.goto 4, 3) := by decide +kernel
theorem dX12_mayBe_84 : decode cX12_mayBe 84 = .ok (.iconst 0, 1) := by decide +kernel
theorem dX12_mayBe_85 : decode cX12_mayBe 85 = .ok (.istore_n 2, 1) := by decide +kernel
theorem dX12_mayBe_86 : decode cX12_mayBe 86 = .ok (.iinc 3 1, 3) := by decide +kernel
theorem dX12_mayBe_89 : decode cX12_mayBe 89 = .ok (.goto (-82), 3) := by decide +kernel
theorem dX12_mayBe_92 : decode cX12_mayBe 92 = .ok (.iload_n 2, 1) := by decide +kernel
theorem dX12_mayBe_93 : decode cX12_mayBe 93 = .ok (.ireturn, 1) := by decide +kernel
theorem dX12_manyWent_0 : decode cX12_manyWent 0 = .ok (.iconst 0, 1) := by decide +kernel
theorem dX12_manyWent_1 : decode cX12_manyWent 1 = .ok (.istore_n 1, 1) := by decide +kernel
theorem dX12_manyWent_2 : decode cX12_manyWent 2 = .ok (.iconst 0, 1) := by decide +kernel
theorem dX12_manyWent_3 : decode cX12_manyWent 3 = .ok (.istore_n 2, 1) := by decide +kernel
theorem dX12_manyWent_4 : decode cX12_manyWent 4 = .ok (.iload_n 2, 1) := by decide +kernel
theorem dX12_manyWent_5 : decode cX12_manyWent 5 = .ok (.iconst 1, 1) := by decide +kernel
theorem dX12_manyWent_6 : decode cX12_manyWent 6 = .ok (.aload_n 0, 1) := by decide +kernel
theorem dX12_manyWent_7 : decode cX12_manyWent 7 = .ok (.getfield 79, 3) := by decide +kernel
theorem dX12_manyWent_10 : decode cX12_manyWent 10 = .ok (.ishl, 1) := by decide +kernel
theorem dX12_manyWent_11 : decode cX12_manyWent 11 = .ok (.if_icmp .ge 25, 3) := by decide +kernel
theorem dX12_manyWent_14 : decode cX12_manyWent 14 = .ok (.iload_n 1, 1) := by decide +kernel
theorem dX12_manyWent_15 : decode cX12_manyWent 15 = .ok (.aload_n 0, 1) := by decide +kernel
theorem dX12_manyWent_16 : decode cX12_manyWent 16 = .ok (.iload_n 2, 1) := by decide +kernel
theorem dX12_manyWent_17 : decode cX12_manyWent 17 = .ok (.invokevirtual 297, 3) := by decide +kernel
theorem dX12_manyWent_20 : decode cX12_manyWent 20 = .ok (.ifCond .eq 7, 3) := by decide +kernel
theorem dX12_manyWent_23 : decode cX12_manyWent 23 = .ok (.iconst 1, 1) := by decide +kernel
theorem dX12_manyWent_24 : decode cX12_manyWent 24 = .ok (.goto 4, 3) := by decide +kernel
theorem dX12_manyWent_27 : decode cX12_manyWent 27 = .ok (.iconst 0, 1) := by decide +kernel
theorem dX12_manyWent_28 : decode cX12_manyWent 28 = .ok (.iadd, 1) := by decide +kernel
theorem dX12_manyWent_29 : decode cX12_manyWent 29 = .ok (.istore_n 1, 1) := by decide +kernel
theorem dX12_manyWent_30 : decode cX12_manyWent 30 = .ok (.iinc 2 1, 3) := by decide +kernel
theorem dX12_manyWent_33 : decode cX12_manyWent 33 = .ok (.goto (-29), 3) := by decide +kernel
theorem dX12_manyWent_36 : decode cX12_manyWent 36 = .ok (.iload_n 1, 1) := by decide +kernel
theorem dX12_manyWent_37 : decode cX12_manyWent 37 = .ok (.ireturn, 1) := by decide +kernel
theorem dX12_inEach_0 : decode cX12_inEach 0 = .ok (.iconst 1, 1) := by decide +kernel
theorem dX12_inEach_1 : decode cX12_inEach 1 = .ok (.aload_n 0, 1) := by decide +kernel
theorem dX12_inEach_2 : decode cX12_inEach 2 = .ok (.getfield 79, 3) := by decide +kernel
theorem dX12_inEach_5 : decode cX12_inEach 5 = .ok (.ishl, 1) := by decide +kernel
theorem dX12_inEach_6 : decode cX12_inEach 6 = .ok (.iconst 1, 1) := by decide +kernel
theorem dX12_inEach_7 : decode cX12_inEach 7 = .ok (.isub, 1) := by decide +kernel
theorem dX12_inEach_8 : decode cX12_inEach 8 = .ok (.istore_n 1, 1) := by decide +kernel
theorem dX12_inEach_9 : decode cX12_inEach 9 = .ok (.iconst 0, 1) := by decide +kernel
theorem dX12_inEach_10 : decode cX12_inEach 10 = .ok (.istore_n 2, 1) := by decide +kernel
theorem dX12_inEach_11 : decode cX12_inEach 11 = .ok (.iload_n 2, 1) := by decide +kernel
theorem dX12_inEach_12 : decode cX12_inEach 12 = .ok (.iconst 1, 1) := by decide +kernel
theorem dX12_inEach_13 : decode cX12_inEach 13 = .ok (.aload_n 0, 1) := by decide +kernel
theorem dX12_inEach_14 : decode cX12_inEach 14 = .ok (.getfield 79, 3) := by decide +kernel
theorem dX12_inEach_17 : decode cX12_inEach 17 = .ok (.ishl, 1) := by decide +kernel
theorem dX12_inEach_18 : decode cX12_inEach 18 = .ok (.if_icmp .ge 25, 3) := by decide +kernel
theorem dX12_inEach_21 : decode cX12_inEach 21 = .ok (.iload_n 1, 1) := by decide +kernel
theorem dX12_inEach_22 : decode cX12_inEach 22 = .ok (.aload_n 0, 1) := by decide +kernel
theorem dX12_inEach_23 : decode cX12_inEach 23 = .ok (.iload_n 2, 1) := by decide +kernel
theorem dX12_inEach_24 : decode cX12_inEach 24 = .ok (.invokevirtual 297, 3) := by decide +kernel
theorem dX12_inEach_27 : decode cX12_inEach 27 = .ok (.ifCond .eq 7, 3) := by decide +kernel
theorem dX12_inEach_30 : decode cX12_inEach 30 = .ok (.iload_n 2, 1) := by decide +kernel
theorem dX12_inEach_31 : decode cX12_inEach 31 = .ok (.goto 4, 3) := by decide +kernel
theorem dX12_inEach_34 : decode cX12_inEach 34 = .ok (.iconst (-1), 1) := by decide +kernel
theorem dX12_inEach_35 : decode cX12_inEach 35 = .ok (.iand, 1) := by decide +kernel
theorem dX12_inEach_36 : decode cX12_inEach 36 = .ok (.istore_n 1, 1) := by decide +kernel
theorem dX12_inEach_37 : decode cX12_inEach 37 = .ok (.iinc 2 1, 3) := by decide +kernel
theorem dX12_inEach_40 : decode cX12_inEach 40 = .ok (.goto (-29), 3) := by decide +kernel
theorem dX12_inEach_43 : decode cX12_inEach 43 = .ok (.aload_n 0, 1) := by decide +kernel
theorem dX12_inEach_44 : decode cX12_inEach 44 = .ok (.invokevirtual 200, 3) := by decide +kernel
theorem dX12_inEach_47 : decode cX12_inEach 47 = .ok (.ifCond .ne 7, 3) := by decide +kernel
theorem dX12_inEach_50 : decode cX12_inEach 50 = .ok (.iconst (-1), 1) := by decide +kernel
theorem dX12_inEach_51 : decode cX12_inEach 51 = .ok (.goto 4, 3) := by decide +kernel
theorem dX12_inEach_54 : decode cX12_inEach 54 = .ok (.iload_n 1, 1) := by decide +kernel
theorem dX12_inEach_55 : decode cX12_inEach 55 = .ok (.ireturn, 1) := by decide +kernel
theorem dX12_askNext_0 : decode cX12_askNext 0 = .ok (.aload_n 0, 1) := by decide +kernel
theorem dX12_askNext_1 : decode cX12_askNext 1 = .ok (.invokevirtual 200, 3) := by decide +kernel
theorem dX12_askNext_4 : decode cX12_askNext 4 = .ok (.istore_n 1, 1) := by decide +kernel
theorem dX12_askNext_5 : decode cX12_askNext 5 = .ok (.iconst (-1), 1) := by decide +kernel
theorem dX12_askNext_6 : decode cX12_askNext 6 = .ok (.istore_n 2, 1) := by decide +kernel
theorem dX12_askNext_7 : decode cX12_askNext 7 = .ok (.iload_n 1, 1) := by decide +kernel
theorem dX12_askNext_8 : decode cX12_askNext 8 = .ok (.istore_n 3, 1) := by decide +kernel
theorem dX12_askNext_9 : decode cX12_askNext 9 = .ok (.iconst 0, 1) := by decide +kernel
theorem dX12_askNext_10 : decode cX12_askNext 10 = .ok (.istore 4, 2) := by decide +kernel
theorem dX12_askNext_12 : decode cX12_askNext 12 = .ok (.iload 4, 2) := by decide +kernel
theorem dX12_askNext_14 : decode cX12_askNext 14 = .ok (.aload_n 0, 1) := by decide +kernel
theorem dX12_askNext_15 : decode cX12_askNext 15 = .ok (.getfield 79, 3) := by decide +kernel
theorem dX12_askNext_18 : decode cX12_askNext 18 = .ok (.if_icmp .ge 107, 3) := by decide +kernel
theorem dX12_askNext_21 : decode cX12_askNext 21 = .ok (.iconst 0, 1) := by decide +kernel
theorem dX12_askNext_22 : decode cX12_askNext 22 = .ok (.istore 5, 2) := by decide +kernel
theorem dX12_askNext_24 : decode cX12_askNext 24 = .ok (.iconst 0, 1) := by decide +kernel
theorem dX12_askNext_25 : decode cX12_askNext 25 = .ok (.istore 6, 2) := by decide +kernel
theorem dX12_askNext_27 : decode cX12_askNext 27 = .ok (.iload 6, 2) := by decide +kernel
theorem dX12_askNext_29 : decode cX12_askNext 29 = .ok (.iconst 1, 1) := by decide +kernel
theorem dX12_askNext_30 : decode cX12_askNext 30 = .ok (.aload_n 0, 1) := by decide +kernel
theorem dX12_askNext_31 : decode cX12_askNext 31 = .ok (.getfield 79, 3) := by decide +kernel
theorem dX12_askNext_34 : decode cX12_askNext 34 = .ok (.ishl, 1) := by decide +kernel
theorem dX12_askNext_35 : decode cX12_askNext 35 = .ok (.if_icmp .ge 38, 3) := by decide +kernel
theorem dX12_askNext_38 : decode cX12_askNext 38 = .ok (.iload 5, 2) := by decide +kernel
theorem dX12_askNext_40 : decode cX12_askNext 40 = .ok (.iload 6, 2) := by decide +kernel
theorem dX12_askNext_42 : decode cX12_askNext 42 = .ok (.iload 4, 2) := by decide +kernel
theorem dX12_askNext_44 : decode cX12_askNext 44 = .ok (.invokestatic 174, 3) := by decide +kernel
theorem dX12_askNext_47 : decode cX12_askNext 47 = .ok (.ifCond .eq 16, 3) := by decide +kernel
theorem dX12_askNext_50 : decode cX12_askNext 50 = .ok (.aload_n 0, 1) := by decide +kernel
theorem dX12_askNext_51 : decode cX12_askNext 51 = .ok (.iload 6, 2) := by decide +kernel
theorem dX12_askNext_53 : decode cX12_askNext 53 = .ok (.invokevirtual 297, 3) := by decide +kernel
theorem dX12_askNext_56 : decode cX12_askNext 56 = .ok (.ifCond .eq 7, 3) := by decide +kernel
theorem dX12_askNext_59 : decode cX12_askNext 59 = .ok (.iconst 1, 1) := by decide +kernel
theorem dX12_askNext_60 : decode cX12_askNext 60 = .ok (.goto 4, 3) := by decide +kernel
theorem dX12_askNext_63 : decode cX12_askNext 63 = .ok (.iconst 0, 1) := by decide +kernel
theorem dX12_askNext_64 : decode cX12_askNext 64 = .ok (.iadd, 1) := by decide +kernel
theorem dX12_askNext_65 : decode cX12_askNext 65 = .ok (.istore 5, 2) := by decide +kernel
theorem dX12_askNext_67 : decode cX12_askNext 67 = .ok (.iinc 6 1, 3) := by decide +kernel
theorem dX12_askNext_70 : decode cX12_askNext 70 = .ok (.goto (-43), 3) := by decide +kernel
theorem dX12_askNext_73 : decode cX12_askNext 73 = .ok (.iload 5, 2) := by decide +kernel
theorem dX12_askNext_75 : decode cX12_askNext 75 = .ok (.iload_n 1, 1) := by decide +kernel
theorem dX12_askNext_76 : decode cX12_askNext 76 = .ok (.iload 5, 2) := by decide +kernel
theorem dX12_askNext_78 : decode cX12_askNext 78 = .ok (.isub, 1) := by decide +kernel
theorem dX12_askNext_79 : decode cX12_askNext 79 = .ok (.if_icmp .le 8, 3) := by decide +kernel
theorem dX12_askNext_82 : decode cX12_askNext 82 = .ok (.iload 5, 2) := by decide +kernel
theorem dX12_askNext_84 : decode cX12_askNext 84 = .ok (.goto 7, 3) := by decide +kernel
theorem dX12_askNext_87 : decode cX12_askNext 87 = .ok (.iload_n 1, 1) := by decide +kernel
theorem dX12_askNext_88 : decode cX12_askNext 88 = .ok (.iload 5, 2) := by decide +kernel
theorem dX12_askNext_90 : decode cX12_askNext 90 = .ok (.isub, 1) := by decide +kernel
theorem dX12_askNext_91 : decode cX12_askNext 91 = .ok (.istore 6, 2) := by decide +kernel
theorem dX12_askNext_93 : decode cX12_askNext 93 = .ok (.iload 6, 2) := by decide +kernel
theorem dX12_askNext_95 : decode cX12_askNext 95 = .ok (.iload_n 3, 1) := by decide +kernel
theorem dX12_askNext_96 : decode cX12_askNext 96 = .ok (.if_icmp .ge 8, 3) := by decide +kernel
theorem dX12_askNext_99 : decode cX12_askNext 99 = .ok (.iload 4, 2) := by decide +kernel
theorem dX12_askNext_101 : decode cX12_askNext 101 = .ok (.goto 4, 3) := by decide +kernel
theorem dX12_askNext_104 : decode cX12_askNext 104 = .ok (.iload_n 2, 1) := by decide +kernel
theorem dX12_askNext_105 : decode cX12_askNext 105 = .ok (.istore_n 2, 1) := by decide +kernel
theorem dX12_askNext_106 : decode cX12_askNext 106 = .ok (.iload 6, 2) := by decide +kernel
theorem dX12_askNext_108 : decode cX12_askNext 108 = .ok (.iload_n 3, 1) := by decide +kernel
theorem dX12_askNext_109 : decode cX12_askNext 109 = .ok (.if_icmp .ge 8, 3) := by decide +kernel
theorem dX12_askNext_112 : decode cX12_askNext 112 = .ok (.iload 6, 2) := by decide +kernel
theorem dX12_askNext_114 : decode cX12_askNext 114 = .ok (.goto 4, 3) := by decide +kernel
theorem dX12_askNext_117 : decode cX12_askNext 117 = .ok (.iload_n 3, 1) := by decide +kernel
theorem dX12_askNext_118 : decode cX12_askNext 118 = .ok (.istore_n 3, 1) := by decide +kernel
theorem dX12_askNext_119 : decode cX12_askNext 119 = .ok (.iinc 4 1, 3) := by decide +kernel
theorem dX12_askNext_122 : decode cX12_askNext 122 = .ok (.goto (-110), 3) := by decide +kernel
theorem dX12_askNext_125 : decode cX12_askNext 125 = .ok (.iload_n 2, 1) := by decide +kernel
theorem dX12_askNext_126 : decode cX12_askNext 126 = .ok (.ireturn, 1) := by decide +kernel
theorem dX12_write_0 : decode cX12_write 0 = .ok (.aload_n 0, 1) := by decide +kernel
theorem dX12_write_1 : decode cX12_write 1 = .ok (.iload_n 1, 1) := by decide +kernel
theorem dX12_write_2 : decode cX12_write 2 = .ok (.invokevirtual 215, 3) := by decide +kernel
theorem dX12_write_5 : decode cX12_write 5 = .ok (.ifCond .ne 6, 3) := by decide +kernel
theorem dX12_write_8 : decode cX12_write 8 = .ok (.ldc 219, 2) := by decide +kernel
theorem dX12_write_10 : decode cX12_write 10 = .ok (.ireturn, 1) := by decide +kernel
theorem dX12_write_11 : decode cX12_write 11 = .ok (.iload_n 2, 1) := by decide +kernel
theorem dX12_write_12 : decode cX12_write 12 = .ok (.i2l, 1) := by decide +kernel
theorem dX12_write_13 : decode cX12_write 13 = .ok (.lconst 0, 1) := by decide +kernel
theorem dX12_write_14 : decode cX12_write 14 = .ok (.ldc2_w 300, 3) := by decide +kernel
theorem dX12_write_17 : decode cX12_write 17 = .ok (.invokestatic 75, 3) := by decide +kernel
theorem dX12_write_20 : decode cX12_write 20 = .ok (.ifCond .ne 6, 3) := by decide +kernel
theorem dX12_write_23 : decode cX12_write 23 = .ok (.ldc 84, 2) := by decide +kernel
theorem dX12_write_25 : decode cX12_write 25 = .ok (.ireturn, 1) := by decide +kernel
theorem dX12_write_26 : decode cX12_write 26 = .ok (.aload_n 0, 1) := by decide +kernel
theorem dX12_write_27 : decode cX12_write 27 = .ok (.getfield 147, 3) := by decide +kernel
theorem dX12_write_30 : decode cX12_write 30 = .ok (.bipush 15, 2) := by decide +kernel
theorem dX12_write_32 : decode cX12_write 32 = .ok (.if_icmp .ne 6, 3) := by decide +kernel
theorem dX12_write_35 : decode cX12_write 35 = .ok (.ldc 88, 2) := by decide +kernel
theorem dX12_write_37 : decode cX12_write 37 = .ok (.ireturn, 1) := by decide +kernel
theorem dX12_write_38 : decode cX12_write 38 = .ok (.aload_n 0, 1) := by decide +kernel
theorem dX12_write_39 : decode cX12_write 39 = .ok (.getfield 56, 3) := by decide +kernel
theorem dX12_write_42 : decode cX12_write 42 = .ok (.aload_n 0, 1) := by decide +kernel
theorem dX12_write_43 : decode cX12_write 43 = .ok (.getfield 147, 3) := by decide +kernel
theorem dX12_write_46 : decode cX12_write 46 = .ok (.iload_n 1, 1) := by decide +kernel
theorem dX12_write_47 : decode cX12_write 47 = .ok (.iastore, 1) := by decide +kernel
theorem dX12_write_48 : decode cX12_write 48 = .ok (.aload_n 0, 1) := by decide +kernel
theorem dX12_write_49 : decode cX12_write 49 = .ok (.getfield 59, 3) := by decide +kernel
theorem dX12_write_52 : decode cX12_write 52 = .ok (.aload_n 0, 1) := by decide +kernel
theorem dX12_write_53 : decode cX12_write 53 = .ok (.getfield 147, 3) := by decide +kernel
theorem dX12_write_56 : decode cX12_write 56 = .ok (.iload_n 2, 1) := by decide +kernel
theorem dX12_write_57 : decode cX12_write 57 = .ok (.iastore, 1) := by decide +kernel
theorem dX12_write_58 : decode cX12_write 58 = .ok (.aload_n 0, 1) := by decide +kernel
theorem dX12_write_59 : decode cX12_write 59 = .ok (.dup, 1) := by decide +kernel
theorem dX12_write_60 : decode cX12_write 60 = .ok (.getfield 147, 3) := by decide +kernel
theorem dX12_write_63 : decode cX12_write 63 = .ok (.iconst 1, 1) := by decide +kernel
theorem dX12_write_64 : decode cX12_write 64 = .ok (.iadd, 1) := by decide +kernel
theorem dX12_write_65 : decode cX12_write 65 = .ok (.putfield 147, 3) := by decide +kernel
theorem dX12_write_68 : decode cX12_write 68 = .ok (.aload_n 0, 1) := by decide +kernel
theorem dX12_write_69 : decode cX12_write 69 = .ok (.getfield 147, 3) := by decide +kernel
theorem dX12_write_72 : decode cX12_write 72 = .ok (.ireturn, 1) := by decide +kernel
theorem dX12_tear_0 : decode cX12_tear 0 = .ok (.aload_n 0, 1) := by decide +kernel
theorem dX12_tear_1 : decode cX12_tear 1 = .ok (.getfield 144, 3) := by decide +kernel
theorem dX12_tear_4 : decode cX12_tear 4 = .ok (.aload_n 0, 1) := by decide +kernel
theorem dX12_tear_5 : decode cX12_tear 5 = .ok (.getfield 147, 3) := by decide +kernel
theorem dX12_tear_8 : decode cX12_tear 8 = .ok (.iadd, 1) := by decide +kernel
theorem dX12_tear_9 : decode cX12_tear 9 = .ok (.istore_n 1, 1) := by decide +kernel
theorem dX12_tear_10 : decode cX12_tear 10 = .ok (.aload_n 0, 1) := by decide +kernel
theorem dX12_tear_11 : decode cX12_tear 11 = .ok (.iconst 0, 1) := by decide +kernel
theorem dX12_tear_12 : decode cX12_tear 12 = .ok (.putfield 144, 3) := by decide +kernel
theorem dX12_tear_15 : decode cX12_tear 15 = .ok (.aload_n 0, 1) := by decide +kernel
theorem dX12_tear_16 : decode cX12_tear 16 = .ok (.iconst 0, 1) := by decide +kernel
theorem dX12_tear_17 : decode cX12_tear 17 = .ok (.putfield 147, 3) := by decide +kernel
theorem dX12_tear_20 : decode cX12_tear 20 = .ok (.iload_n 1, 1) := by decide +kernel
theorem dX12_tear_21 : decode cX12_tear 21 = .ok (.ireturn, 1) := by decide +kernel
theorem dX12_judge_0 : decode cX12_judge 0 = .ok (.iconst 0, 1) := by decide +kernel
theorem dX12_judge_1 : decode cX12_judge 1 = .ok (.istore_n 1, 1) := by decide +kernel
theorem dX12_judge_2 : decode cX12_judge 2 = .ok (.iload_n 1, 1) := by decide +kernel
theorem dX12_judge_3 : decode cX12_judge 3 = .ok (.aload_n 0, 1) := by decide +kernel
theorem dX12_judge_4 : decode cX12_judge 4 = .ok (.getfield 147, 3) := by decide +kernel
theorem dX12_judge_7 : decode cX12_judge 7 = .ok (.if_icmp .ge 34, 3) := by decide +kernel
theorem dX12_judge_10 : decode cX12_judge 10 = .ok (.aload_n 0, 1) := by decide +kernel
theorem dX12_judge_11 : decode cX12_judge 11 = .ok (.getfield 19, 3) := by decide +kernel
theorem dX12_judge_14 : decode cX12_judge 14 = .ok (.bipush 19, 2) := by decide +kernel
theorem dX12_judge_16 : decode cX12_judge 16 = .ok (.aload_n 0, 1) := by decide +kernel
theorem dX12_judge_17 : decode cX12_judge 17 = .ok (.getfield 56, 3) := by decide +kernel
theorem dX12_judge_20 : decode cX12_judge 20 = .ok (.iload_n 1, 1) := by decide +kernel
theorem dX12_judge_21 : decode cX12_judge 21 = .ok (.iaload, 1) := by decide +kernel
theorem dX12_judge_22 : decode cX12_judge 22 = .ok (.iadd, 1) := by decide +kernel
theorem dX12_judge_23 : decode cX12_judge 23 = .ok (.iaload, 1) := by decide +kernel
theorem dX12_judge_24 : decode cX12_judge 24 = .ok (.aload_n 0, 1) := by decide +kernel
theorem dX12_judge_25 : decode cX12_judge 25 = .ok (.getfield 59, 3) := by decide +kernel
theorem dX12_judge_28 : decode cX12_judge 28 = .ok (.iload_n 1, 1) := by decide +kernel
theorem dX12_judge_29 : decode cX12_judge 29 = .ok (.iaload, 1) := by decide +kernel
theorem dX12_judge_30 : decode cX12_judge 30 = .ok (.if_icmp .eq 5, 3) := by decide +kernel
theorem dX12_judge_33 : decode cX12_judge 33 = .ok (.iload_n 1, 1) := by decide +kernel
theorem dX12_judge_34 : decode cX12_judge 34 = .ok (.ireturn, 1) := by decide +kernel
theorem dX12_judge_35 : decode cX12_judge 35 = .ok (.iinc 1 1, 3) := by decide +kernel
theorem dX12_judge_38 : decode cX12_judge 38 = .ok (.goto (-36), 3) := by decide +kernel
theorem dX12_judge_41 : decode cX12_judge 41 = .ok (.iconst (-1), 1) := by decide +kernel
theorem dX12_judge_42 : decode cX12_judge 42 = .ok (.ireturn, 1) := by decide +kernel
theorem dX12_seed_0 : decode cX12_seed 0 = .ok (.iload_n 1, 1) := by decide +kernel
theorem dX12_seed_1 : decode cX12_seed 1 = .ok (.ifCond .ge 6, 3) := by decide +kernel
theorem dX12_seed_4 : decode cX12_seed 4 = .ok (.ldc 84, 2) := by decide +kernel
theorem dX12_seed_6 : decode cX12_seed 6 = .ok (.ireturn, 1) := by decide +kernel
theorem dX12_seed_7 : decode cX12_seed 7 = .ok (.aload_n 0, 1) := by decide +kernel
theorem dX12_seed_8 : decode cX12_seed 8 = .ok (.getfield 259, 3) := by decide +kernel
theorem dX12_seed_11 : decode cX12_seed 11 = .ok (.istore_n 2, 1) := by decide +kernel
theorem dX12_seed_12 : decode cX12_seed 12 = .ok (.aload_n 0, 1) := by decide +kernel
theorem dX12_seed_13 : decode cX12_seed 13 = .ok (.iload_n 1, 1) := by decide +kernel
theorem dX12_seed_14 : decode cX12_seed 14 = .ok (.putfield 259, 3) := by decide +kernel
theorem dX12_seed_17 : decode cX12_seed 17 = .ok (.iload_n 2, 1) := by decide +kernel
theorem dX12_seed_18 : decode cX12_seed 18 = .ok (.ireturn, 1) := by decide +kernel
theorem dX12_keep_0 : decode cX12_keep 0 = .ok (.iload_n 1, 1) := by decide +kernel
theorem dX12_keep_1 : decode cX12_keep 1 = .ok (.i2l, 1) := by decide +kernel
theorem dX12_keep_2 : decode cX12_keep 2 = .ok (.lconst 0, 1) := by decide +kernel
theorem dX12_keep_3 : decode cX12_keep 3 = .ok (.lconst 1, 1) := by decide +kernel
theorem dX12_keep_4 : decode cX12_keep 4 = .ok (.invokestatic 75, 3) := by decide +kernel
theorem dX12_keep_7 : decode cX12_keep 7 = .ok (.ifCond .ne 6, 3) := by decide +kernel
theorem dX12_keep_10 : decode cX12_keep 10 = .ok (.ldc 219, 2) := by decide +kernel
theorem dX12_keep_12 : decode cX12_keep 12 = .ok (.ireturn, 1) := by decide +kernel
theorem dX12_keep_13 : decode cX12_keep 13 = .ok (.iconst 0, 1) := by decide +kernel
theorem dX12_keep_14 : decode cX12_keep 14 = .ok (.istore_n 2, 1) := by decide +kernel
theorem dX12_keep_15 : decode cX12_keep 15 = .ok (.iload_n 2, 1) := by decide +kernel
theorem dX12_keep_16 : decode cX12_keep 16 = .ok (.bipush 30, 2) := by decide +kernel
theorem dX12_keep_18 : decode cX12_keep 18 = .ok (.if_icmp .ge 26, 3) := by decide +kernel
theorem dX12_keep_21 : decode cX12_keep 21 = .ok (.aload_n 0, 1) := by decide +kernel
theorem dX12_keep_22 : decode cX12_keep 22 = .ok (.getfield 62, 3) := by decide +kernel
theorem dX12_keep_25 : decode cX12_keep 25 = .ok (.bipush 31, 2) := by decide +kernel
theorem dX12_keep_27 : decode cX12_keep 27 = .ok (.iload_n 1, 1) := by decide +kernel
theorem dX12_keep_28 : decode cX12_keep 28 = .ok (.imul, 1) := by decide +kernel
theorem dX12_keep_29 : decode cX12_keep 29 = .ok (.iload_n 2, 1) := by decide +kernel
theorem dX12_keep_30 : decode cX12_keep 30 = .ok (.iadd, 1) := by decide +kernel
theorem dX12_keep_31 : decode cX12_keep 31 = .ok (.aload_n 0, 1) := by decide +kernel
theorem dX12_keep_32 : decode cX12_keep 32 = .ok (.getfield 19, 3) := by decide +kernel
theorem dX12_keep_35 : decode cX12_keep 35 = .ok (.iload_n 2, 1) := by decide +kernel
theorem dX12_keep_36 : decode cX12_keep 36 = .ok (.iaload, 1) := by decide +kernel
theorem dX12_keep_37 : decode cX12_keep 37 = .ok (.iastore, 1) := by decide +kernel
theorem dX12_keep_38 : decode cX12_keep 38 = .ok (.iinc 2 1, 3) := by decide +kernel
theorem dX12_keep_41 : decode cX12_keep 41 = .ok (.goto (-26), 3) := by decide +kernel
theorem dX12_keep_44 : decode cX12_keep 44 = .ok (.aload_n 0, 1) := by decide +kernel
theorem dX12_keep_45 : decode cX12_keep 45 = .ok (.getfield 62, 3) := by decide +kernel
theorem dX12_keep_48 : decode cX12_keep 48 = .ok (.bipush 31, 2) := by decide +kernel
theorem dX12_keep_50 : decode cX12_keep 50 = .ok (.iload_n 1, 1) := by decide +kernel
theorem dX12_keep_51 : decode cX12_keep 51 = .ok (.imul, 1) := by decide +kernel
theorem dX12_keep_52 : decode cX12_keep 52 = .ok (.bipush 30, 2) := by decide +kernel
theorem dX12_keep_54 : decode cX12_keep 54 = .ok (.iadd, 1) := by decide +kernel
theorem dX12_keep_55 : decode cX12_keep 55 = .ok (.aload_n 0, 1) := by decide +kernel
theorem dX12_keep_56 : decode cX12_keep 56 = .ok (.getfield 259, 3) := by decide +kernel
theorem dX12_keep_59 : decode cX12_keep 59 = .ok (.iastore, 1) := by decide +kernel
theorem dX12_keep_60 : decode cX12_keep 60 = .ok (.aload_n 0, 1) := by decide +kernel
theorem dX12_keep_61 : decode cX12_keep 61 = .ok (.getfield 65, 3) := by decide +kernel
theorem dX12_keep_64 : decode cX12_keep 64 = .ok (.iload_n 1, 1) := by decide +kernel
theorem dX12_keep_65 : decode cX12_keep 65 = .ok (.iconst 1, 1) := by decide +kernel
theorem dX12_keep_66 : decode cX12_keep 66 = .ok (.bastore, 1) := by decide +kernel
theorem dX12_keep_67 : decode cX12_keep 67 = .ok (.aload_n 0, 1) := by decide +kernel
theorem dX12_keep_68 : decode cX12_keep 68 = .ok (.iconst 0, 1) := by decide +kernel
theorem dX12_keep_69 : decode cX12_keep 69 = .ok (.putfield 150, 3) := by decide +kernel
theorem dX12_keep_72 : decode cX12_keep 72 = .ok (.iconst 1, 1) := by decide +kernel
theorem dX12_keep_73 : decode cX12_keep 73 = .ok (.ireturn, 1) := by decide +kernel
theorem dX12_goBack_0 : decode cX12_goBack 0 = .ok (.iload_n 1, 1) := by decide +kernel
theorem dX12_goBack_1 : decode cX12_goBack 1 = .ok (.i2l, 1) := by decide +kernel
theorem dX12_goBack_2 : decode cX12_goBack 2 = .ok (.lconst 0, 1) := by decide +kernel
theorem dX12_goBack_3 : decode cX12_goBack 3 = .ok (.lconst 1, 1) := by decide +kernel
theorem dX12_goBack_4 : decode cX12_goBack 4 = .ok (.invokestatic 75, 3) := by decide +kernel
theorem dX12_goBack_7 : decode cX12_goBack 7 = .ok (.ifCond .ne 6, 3) := by decide +kernel
theorem dX12_goBack_10 : decode cX12_goBack 10 = .ok (.ldc 219, 2) := by decide +kernel
theorem dX12_goBack_12 : decode cX12_goBack 12 = .ok (.ireturn, 1) := by decide +kernel
theorem dX12_goBack_13 : decode cX12_goBack 13 = .ok (.aload_n 0, 1) := by decide +kernel
theorem dX12_goBack_14 : decode cX12_goBack 14 = .ok (.getfield 65, 3) := by decide +kernel
theorem dX12_goBack_17 : decode cX12_goBack 17 = .ok (.iload_n 1, 1) := by decide +kernel
theorem dX12_goBack_18 : decode cX12_goBack 18 = .ok (.baload, 1) := by decide +kernel
theorem dX12_goBack_19 : decode cX12_goBack 19 = .ok (.ifCond .ne 6, 3) := by decide +kernel
theorem dX12_goBack_22 : decode cX12_goBack 22 = .ok (.ldc 246, 2) := by decide +kernel
theorem dX12_goBack_24 : decode cX12_goBack 24 = .ok (.ireturn, 1) := by decide +kernel
theorem dX12_goBack_25 : decode cX12_goBack 25 = .ok (.iconst 0, 1) := by decide +kernel
theorem dX12_goBack_26 : decode cX12_goBack 26 = .ok (.istore_n 2, 1) := by decide +kernel
theorem dX12_goBack_27 : decode cX12_goBack 27 = .ok (.iload_n 2, 1) := by decide +kernel
theorem dX12_goBack_28 : decode cX12_goBack 28 = .ok (.bipush 30, 2) := by decide +kernel
theorem dX12_goBack_30 : decode cX12_goBack 30 = .ok (.if_icmp .ge 26, 3) := by decide +kernel
theorem dX12_goBack_33 : decode cX12_goBack 33 = .ok (.aload_n 0, 1) := by decide +kernel
theorem dX12_goBack_34 : decode cX12_goBack 34 = .ok (.getfield 19, 3) := by decide +kernel
theorem dX12_goBack_37 : decode cX12_goBack 37 = .ok (.iload_n 2, 1) := by decide +kernel
theorem dX12_goBack_38 : decode cX12_goBack 38 = .ok (.aload_n 0, 1) := by decide +kernel
theorem dX12_goBack_39 : decode cX12_goBack 39 = .ok (.getfield 62, 3) := by decide +kernel
theorem dX12_goBack_42 : decode cX12_goBack 42 = .ok (.bipush 31, 2) := by decide +kernel
theorem dX12_goBack_44 : decode cX12_goBack 44 = .ok (.iload_n 1, 1) := by decide +kernel
theorem dX12_goBack_45 : decode cX12_goBack 45 = .ok (.imul, 1) := by decide +kernel
theorem dX12_goBack_46 : decode cX12_goBack 46 = .ok (.iload_n 2, 1) := by decide +kernel
theorem dX12_goBack_47 : decode cX12_goBack 47 = .ok (.iadd, 1) := by decide +kernel
theorem dX12_goBack_48 : decode cX12_goBack 48 = .ok (.iaload, 1) := by decide +kernel
theorem dX12_goBack_49 : decode cX12_goBack 49 = .ok (.iastore, 1) := by decide +kernel
theorem dX12_goBack_50 : decode cX12_goBack 50 = .ok (.iinc 2 1, 3) := by decide +kernel
theorem dX12_goBack_53 : decode cX12_goBack 53 = .ok (.goto (-26), 3) := by decide +kernel
theorem dX12_goBack_56 : decode cX12_goBack 56 = .ok (.aload_n 0, 1) := by decide +kernel
theorem dX12_goBack_57 : decode cX12_goBack 57 = .ok (.aload_n 0, 1) := by decide +kernel
theorem dX12_goBack_58 : decode cX12_goBack 58 = .ok (.getfield 62, 3) := by decide +kernel
theorem dX12_goBack_61 : decode cX12_goBack 61 = .ok (.bipush 31, 2) := by decide +kernel
theorem dX12_goBack_63 : decode cX12_goBack 63 = .ok (.iload_n 1, 1) := by decide +kernel
theorem dX12_goBack_64 : decode cX12_goBack 64 = .ok (.imul, 1) := by decide +kernel
theorem dX12_goBack_65 : decode cX12_goBack 65 = .ok (.bipush 30, 2) := by decide +kernel
theorem dX12_goBack_67 : decode cX12_goBack 67 = .ok (.iadd, 1) := by decide +kernel
theorem dX12_goBack_68 : decode cX12_goBack 68 = .ok (.iaload, 1) := by decide +kernel
theorem dX12_goBack_69 : decode cX12_goBack 69 = .ok (.putfield 259, 3) := by decide +kernel
theorem dX12_goBack_72 : decode cX12_goBack 72 = .ok (.aload_n 0, 1) := by decide +kernel
theorem dX12_goBack_73 : decode cX12_goBack 73 = .ok (.iconst 0, 1) := by decide +kernel
theorem dX12_goBack_74 : decode cX12_goBack 74 = .ok (.putfield 150, 3) := by decide +kernel
theorem dX12_goBack_77 : decode cX12_goBack 77 = .ok (.iconst 1, 1) := by decide +kernel
theorem dX12_goBack_78 : decode cX12_goBack 78 = .ok (.ireturn, 1) := by decide +kernel
theorem dJ6_bitCount_0f7a4_0 : decode cJ6_bitCount_0f7a4 0 = .ok (.iload_n 0, 1) := by decide +kernel
theorem dJ6_bitCount_0f7a4_1 : decode cJ6_bitCount_0f7a4 1 = .ok (.iload_n 0, 1) := by decide +kernel
theorem dJ6_bitCount_0f7a4_2 : decode cJ6_bitCount_0f7a4 2 = .ok (.iconst 1, 1) := by decide +kernel
theorem dJ6_bitCount_0f7a4_3 : decode cJ6_bitCount_0f7a4 3 = .ok (.iushr, 1) := by decide +kernel
theorem dJ6_bitCount_0f7a4_4 : decode cJ6_bitCount_0f7a4 4 = .ok (.ldc_w 265, 3) := by decide +kernel
theorem dJ6_bitCount_0f7a4_7 : decode cJ6_bitCount_0f7a4 7 = .ok (.iand, 1) := by decide +kernel
theorem dJ6_bitCount_0f7a4_8 : decode cJ6_bitCount_0f7a4 8 = .ok (.isub, 1) := by decide +kernel
theorem dJ6_bitCount_0f7a4_9 : decode cJ6_bitCount_0f7a4 9 = .ok (.istore_n 0, 1) := by decide +kernel
theorem dJ6_bitCount_0f7a4_10 : decode cJ6_bitCount_0f7a4 10 = .ok (.iload_n 0, 1) := by decide +kernel
theorem dJ6_bitCount_0f7a4_11 : decode cJ6_bitCount_0f7a4 11 = .ok (.ldc_w 266, 3) := by decide +kernel
theorem dJ6_bitCount_0f7a4_14 : decode cJ6_bitCount_0f7a4 14 = .ok (.iand, 1) := by decide +kernel
theorem dJ6_bitCount_0f7a4_15 : decode cJ6_bitCount_0f7a4 15 = .ok (.iload_n 0, 1) := by decide +kernel
theorem dJ6_bitCount_0f7a4_16 : decode cJ6_bitCount_0f7a4 16 = .ok (.iconst 2, 1) := by decide +kernel
theorem dJ6_bitCount_0f7a4_17 : decode cJ6_bitCount_0f7a4 17 = .ok (.iushr, 1) := by decide +kernel
theorem dJ6_bitCount_0f7a4_18 : decode cJ6_bitCount_0f7a4 18 = .ok (.ldc_w 266, 3) := by decide +kernel
theorem dJ6_bitCount_0f7a4_21 : decode cJ6_bitCount_0f7a4 21 = .ok (.iand, 1) := by decide +kernel
theorem dJ6_bitCount_0f7a4_22 : decode cJ6_bitCount_0f7a4 22 = .ok (.iadd, 1) := by decide +kernel
theorem dJ6_bitCount_0f7a4_23 : decode cJ6_bitCount_0f7a4 23 = .ok (.istore_n 0, 1) := by decide +kernel
theorem dJ6_bitCount_0f7a4_24 : decode cJ6_bitCount_0f7a4 24 = .ok (.iload_n 0, 1) := by decide +kernel
theorem dJ6_bitCount_0f7a4_25 : decode cJ6_bitCount_0f7a4 25 = .ok (.iload_n 0, 1) := by decide +kernel
theorem dJ6_bitCount_0f7a4_26 : decode cJ6_bitCount_0f7a4 26 = .ok (.iconst 4, 1) := by decide +kernel
theorem dJ6_bitCount_0f7a4_27 : decode cJ6_bitCount_0f7a4 27 = .ok (.iushr, 1) := by decide +kernel
theorem dJ6_bitCount_0f7a4_28 : decode cJ6_bitCount_0f7a4 28 = .ok (.iadd, 1) := by decide +kernel
theorem dJ6_bitCount_0f7a4_29 : decode cJ6_bitCount_0f7a4 29 = .ok (.ldc_w 267, 3) := by decide +kernel
theorem dJ6_bitCount_0f7a4_32 : decode cJ6_bitCount_0f7a4 32 = .ok (.iand, 1) := by decide +kernel
theorem dJ6_bitCount_0f7a4_33 : decode cJ6_bitCount_0f7a4 33 = .ok (.istore_n 0, 1) := by decide +kernel
theorem dJ6_bitCount_0f7a4_34 : decode cJ6_bitCount_0f7a4 34 = .ok (.iload_n 0, 1) := by decide +kernel
theorem dJ6_bitCount_0f7a4_35 : decode cJ6_bitCount_0f7a4 35 = .ok (.iload_n 0, 1) := by decide +kernel
theorem dJ6_bitCount_0f7a4_36 : decode cJ6_bitCount_0f7a4 36 = .ok (.bipush 8, 2) := by decide +kernel
theorem dJ6_bitCount_0f7a4_38 : decode cJ6_bitCount_0f7a4 38 = .ok (.iushr, 1) := by decide +kernel
theorem dJ6_bitCount_0f7a4_39 : decode cJ6_bitCount_0f7a4 39 = .ok (.iadd, 1) := by decide +kernel
theorem dJ6_bitCount_0f7a4_40 : decode cJ6_bitCount_0f7a4 40 = .ok (.istore_n 0, 1) := by decide +kernel
theorem dJ6_bitCount_0f7a4_41 : decode cJ6_bitCount_0f7a4 41 = .ok (.iload_n 0, 1) := by decide +kernel
theorem dJ6_bitCount_0f7a4_42 : decode cJ6_bitCount_0f7a4 42 = .ok (.iload_n 0, 1) := by decide +kernel
theorem dJ6_bitCount_0f7a4_43 : decode cJ6_bitCount_0f7a4 43 = .ok (.bipush 16, 2) := by decide +kernel
theorem dJ6_bitCount_0f7a4_45 : decode cJ6_bitCount_0f7a4 45 = .ok (.iushr, 1) := by decide +kernel
theorem dJ6_bitCount_0f7a4_46 : decode cJ6_bitCount_0f7a4 46 = .ok (.iadd, 1) := by decide +kernel
theorem dJ6_bitCount_0f7a4_47 : decode cJ6_bitCount_0f7a4 47 = .ok (.istore_n 0, 1) := by decide +kernel
theorem dJ6_bitCount_0f7a4_48 : decode cJ6_bitCount_0f7a4 48 = .ok (.iload_n 0, 1) := by decide +kernel
theorem dJ6_bitCount_0f7a4_49 : decode cJ6_bitCount_0f7a4 49 = .ok (.bipush 63, 2) := by decide +kernel
theorem dJ6_bitCount_0f7a4_51 : decode cJ6_bitCount_0f7a4 51 = .ok (.iand, 1) := by decide +kernel
theorem dJ6_bitCount_0f7a4_52 : decode cJ6_bitCount_0f7a4 52 = .ok (.ireturn, 1) := by decide +kernel
theorem dJ9_max_7cf53_0 : decode cJ9_max_7cf53 0 = .ok (.iload_n 0, 1) := by decide +kernel
theorem dJ9_max_7cf53_1 : decode cJ9_max_7cf53 1 = .ok (.iload_n 1, 1) := by decide +kernel
theorem dJ9_max_7cf53_2 : decode cJ9_max_7cf53 2 = .ok (.if_icmp .lt 7, 3) := by decide +kernel
theorem dJ9_max_7cf53_5 : decode cJ9_max_7cf53 5 = .ok (.iload_n 0, 1) := by decide +kernel
theorem dJ9_max_7cf53_6 : decode cJ9_max_7cf53 6 = .ok (.goto 4, 3) := by decide +kernel
theorem dJ9_max_7cf53_9 : decode cJ9_max_7cf53 9 = .ok (.iload_n 1, 1) := by decide +kernel
theorem dJ9_max_7cf53_10 : decode cJ9_max_7cf53 10 = .ok (.ireturn, 1) := by decide +kernel
theorem dJ9_min_7cf53_0 : decode cJ9_min_7cf53 0 = .ok (.iload_n 0, 1) := by decide +kernel
theorem dJ9_min_7cf53_1 : decode cJ9_min_7cf53 1 = .ok (.iload_n 1, 1) := by decide +kernel
theorem dJ9_min_7cf53_2 : decode cJ9_min_7cf53 2 = .ok (.if_icmp .gt 7, 3) := by decide +kernel
theorem dJ9_min_7cf53_5 : decode cJ9_min_7cf53 5 = .ok (.iload_n 0, 1) := by decide +kernel
theorem dJ9_min_7cf53_6 : decode cJ9_min_7cf53 6 = .ok (.goto 4, 3) := by decide +kernel
theorem dJ9_min_7cf53_9 : decode cJ9_min_7cf53 9 = .ok (.iload_n 1, 1) := by decide +kernel
theorem dJ9_min_7cf53_10 : decode cJ9_min_7cf53 10 = .ok (.ireturn, 1) := by decide +kernel
theorem dJ7_fill_53178_0 : decode cJ7_fill_53178 0 = .ok (.iconst 0, 1) := by decide +kernel
theorem dJ7_fill_53178_1 : decode cJ7_fill_53178 1 = .ok (.istore_n 2, 1) := by decide +kernel
theorem dJ7_fill_53178_2 : decode cJ7_fill_53178 2 = .ok (.aload_n 0, 1) := by decide +kernel
theorem dJ7_fill_53178_3 : decode cJ7_fill_53178 3 = .ok (.arraylength, 1) := by decide +kernel
theorem dJ7_fill_53178_4 : decode cJ7_fill_53178 4 = .ok (.istore_n 3, 1) := by decide +kernel
theorem dJ7_fill_53178_5 : decode cJ7_fill_53178 5 = .ok (.iload_n 2, 1) := by decide +kernel
theorem dJ7_fill_53178_6 : decode cJ7_fill_53178 6 = .ok (.iload_n 3, 1) := by decide +kernel
theorem dJ7_fill_53178_7 : decode cJ7_fill_53178 7 = .ok (.if_icmp .ge 13, 3) := by decide +kernel
theorem dJ7_fill_53178_10 : decode cJ7_fill_53178 10 = .ok (.aload_n 0, 1) := by decide +kernel
theorem dJ7_fill_53178_11 : decode cJ7_fill_53178 11 = .ok (.iload_n 2, 1) := by decide +kernel
theorem dJ7_fill_53178_12 : decode cJ7_fill_53178 12 = .ok (.iload_n 1, 1) := by decide +kernel
theorem dJ7_fill_53178_13 : decode cJ7_fill_53178 13 = .ok (.iastore, 1) := by decide +kernel
theorem dJ7_fill_53178_14 : decode cJ7_fill_53178 14 = .ok (.iinc 2 1, 3) := by decide +kernel
theorem dJ7_fill_53178_17 : decode cJ7_fill_53178 17 = .ok (.goto (-12), 3) := by decide +kernel
theorem dJ7_fill_53178_20 : decode cJ7_fill_53178 20 = .ok (.return_, 1) := by decide +kernel
theorem dL_law_0 : decode cL_law 0 = .ok (.new 7, 3) := by decide +kernel
theorem dL_law_3 : decode cL_law 3 = .ok (.dup, 1) := by decide +kernel
theorem dL_law_4 : decode cL_law 4 = .ok (.invokespecial 9, 3) := by decide +kernel
theorem dL_law_7 : decode cL_law 7 = .ok (.astore_n 1, 1) := by decide +kernel
theorem dL_law_8 : decode cL_law 8 = .ok (.new 10, 3) := by decide +kernel
theorem dL_law_11 : decode cL_law 11 = .ok (.dup, 1) := by decide +kernel
theorem dL_law_12 : decode cL_law 12 = .ok (.invokespecial 12, 3) := by decide +kernel
theorem dL_law_15 : decode cL_law 15 = .ok (.astore_n 2, 1) := by decide +kernel
theorem dL_law_16 : decode cL_law 16 = .ok (.iconst 0, 1) := by decide +kernel
theorem dL_law_17 : decode cL_law 17 = .ok (.istore_n 3, 1) := by decide +kernel
theorem dL_law_18 : decode cL_law 18 = .ok (.iload_n 3, 1) := by decide +kernel
theorem dL_law_19 : decode cL_law 19 = .ok (.aload_n 0, 1) := by decide +kernel
theorem dL_law_20 : decode cL_law 20 = .ok (.arraylength, 1) := by decide +kernel
theorem dL_law_21 : decode cL_law 21 = .ok (.iconst 4, 1) := by decide +kernel
theorem dL_law_22 : decode cL_law 22 = .ok (.isub, 1) := by decide +kernel
theorem dL_law_23 : decode cL_law 23 = .ok (.if_icmp .gt 766, 3) := by decide +kernel
theorem dL_law_26 : decode cL_law 26 = .ok (.aload_n 0, 1) := by decide +kernel
theorem dL_law_27 : decode cL_law 27 = .ok (.iload_n 3, 1) := by decide +kernel
theorem dL_law_28 : decode cL_law 28 = .ok (.iaload, 1) := by decide +kernel
theorem dL_law_29 : decode cL_law 29 = .ok (.bipush 31, 2) := by decide +kernel
theorem dL_law_31 : decode cL_law 31 = .ok (.iand, 1) := by decide +kernel
theorem dL_law_32 : decode cL_law 32 = .ok (.tableswitch 751 0 24 #[116, 139, 152, 165, 188, 221, 254, 287, 320, 343, 376, 409, 432, 445, 488, 511, 534, 567, 600, 623, 656, 669, 682, 705, 728], 116) := by decide +kernel
theorem dL_law_148 : decode cL_law 148 = .ok (.aload_n 1, 1) := by decide +kernel
theorem dL_law_149 : decode cL_law 149 = .ok (.aload_n 0, 1) := by decide +kernel
theorem dL_law_150 : decode cL_law 150 = .ok (.iload_n 3, 1) := by decide +kernel
theorem dL_law_151 : decode cL_law 151 = .ok (.iconst 1, 1) := by decide +kernel
theorem dL_law_152 : decode cL_law 152 = .ok (.iadd, 1) := by decide +kernel
theorem dL_law_153 : decode cL_law 153 = .ok (.iaload, 1) := by decide +kernel
theorem dL_law_154 : decode cL_law 154 = .ok (.invokevirtual 13, 3) := by decide +kernel
theorem dL_law_157 : decode cL_law 157 = .ok (.aload_n 2, 1) := by decide +kernel
theorem dL_law_158 : decode cL_law 158 = .ok (.aload_n 0, 1) := by decide +kernel
theorem dL_law_159 : decode cL_law 159 = .ok (.iload_n 3, 1) := by decide +kernel
theorem dL_law_160 : decode cL_law 160 = .ok (.iconst 1, 1) := by decide +kernel
theorem dL_law_161 : decode cL_law 161 = .ok (.iadd, 1) := by decide +kernel
theorem dL_law_162 : decode cL_law 162 = .ok (.iaload, 1) := by decide +kernel
theorem dL_law_163 : decode cL_law 163 = .ok (.invokevirtual 17, 3) := by decide +kernel
theorem dL_law_166 : decode cL_law 166 = .ok (.if_icmp .eq 617, 3) := by decide +kernel
theorem dL_law_169 : decode cL_law 169 = .ok (.iconst 0, 1) := by decide +kernel
theorem dL_law_170 : decode cL_law 170 = .ok (.ireturn, 1) := by decide +kernel
theorem dL_law_171 : decode cL_law 171 = .ok (.aload_n 1, 1) := by decide +kernel
theorem dL_law_172 : decode cL_law 172 = .ok (.invokevirtual 18, 3) := by decide +kernel
theorem dL_law_175 : decode cL_law 175 = .ok (.aload_n 2, 1) := by decide +kernel
theorem dL_law_176 : decode cL_law 176 = .ok (.invokevirtual 22, 3) := by decide +kernel
theorem dL_law_179 : decode cL_law 179 = .ok (.if_icmp .eq 604, 3) := by decide +kernel
theorem dL_law_182 : decode cL_law 182 = .ok (.iconst 0, 1) := by decide +kernel
theorem dL_law_183 : decode cL_law 183 = .ok (.ireturn, 1) := by decide +kernel
theorem dL_law_184 : decode cL_law 184 = .ok (.aload_n 1, 1) := by decide +kernel
theorem dL_law_185 : decode cL_law 185 = .ok (.invokevirtual 23, 3) := by decide +kernel
theorem dL_law_188 : decode cL_law 188 = .ok (.aload_n 2, 1) := by decide +kernel
theorem dL_law_189 : decode cL_law 189 = .ok (.invokevirtual 26, 3) := by decide +kernel
theorem dL_law_192 : decode cL_law 192 = .ok (.if_icmp .eq 591, 3) := by decide +kernel
theorem dL_law_195 : decode cL_law 195 = .ok (.iconst 0, 1) := by decide +kernel
theorem dL_law_196 : decode cL_law 196 = .ok (.ireturn, 1) := by decide +kernel
theorem dL_law_197 : decode cL_law 197 = .ok (.aload_n 1, 1) := by decide +kernel
theorem dL_law_198 : decode cL_law 198 = .ok (.aload_n 0, 1) := by decide +kernel
theorem dL_law_199 : decode cL_law 199 = .ok (.iload_n 3, 1) := by decide +kernel
theorem dL_law_200 : decode cL_law 200 = .ok (.iconst 1, 1) := by decide +kernel
theorem dL_law_201 : decode cL_law 201 = .ok (.iadd, 1) := by decide +kernel
theorem dL_law_202 : decode cL_law 202 = .ok (.iaload, 1) := by decide +kernel
theorem dL_law_203 : decode cL_law 203 = .ok (.invokevirtual 27, 3) := by decide +kernel
theorem dL_law_206 : decode cL_law 206 = .ok (.aload_n 2, 1) := by decide +kernel
theorem dL_law_207 : decode cL_law 207 = .ok (.aload_n 0, 1) := by decide +kernel
theorem dL_law_208 : decode cL_law 208 = .ok (.iload_n 3, 1) := by decide +kernel
theorem dL_law_209 : decode cL_law 209 = .ok (.iconst 1, 1) := by decide +kernel
theorem dL_law_210 : decode cL_law 210 = .ok (.iadd, 1) := by decide +kernel
theorem dL_law_211 : decode cL_law 211 = .ok (.iaload, 1) := by decide +kernel
theorem dL_law_212 : decode cL_law 212 = .ok (.invokevirtual 30, 3) := by decide +kernel
theorem dL_law_215 : decode cL_law 215 = .ok (.if_icmp .eq 568, 3) := by decide +kernel
theorem dL_law_218 : decode cL_law 218 = .ok (.iconst 0, 1) := by decide +kernel
theorem dL_law_219 : decode cL_law 219 = .ok (.ireturn, 1) := by decide +kernel
theorem dL_law_220 : decode cL_law 220 = .ok (.aload_n 1, 1) := by decide +kernel
theorem dL_law_221 : decode cL_law 221 = .ok (.aload_n 0, 1) := by decide +kernel
theorem dL_law_222 : decode cL_law 222 = .ok (.iload_n 3, 1) := by decide +kernel
theorem dL_law_223 : decode cL_law 223 = .ok (.iconst 1, 1) := by decide +kernel
theorem dL_law_224 : decode cL_law 224 = .ok (.iadd, 1) := by decide +kernel
theorem dL_law_225 : decode cL_law 225 = .ok (.iaload, 1) := by decide +kernel
theorem dL_law_226 : decode cL_law 226 = .ok (.aload_n 0, 1) := by decide +kernel
theorem dL_law_227 : decode cL_law 227 = .ok (.iload_n 3, 1) := by decide +kernel
theorem dL_law_228 : decode cL_law 228 = .ok (.iconst 2, 1) := by decide +kernel
theorem dL_law_229 : decode cL_law 229 = .ok (.iadd, 1) := by decide +kernel
theorem dL_law_230 : decode cL_law 230 = .ok (.iaload, 1) := by decide +kernel
theorem dL_law_231 : decode cL_law 231 = .ok (.invokevirtual 31, 3) := by decide +kernel
theorem dL_law_234 : decode cL_law 234 = .ok (.aload_n 2, 1) := by decide +kernel
theorem dL_law_235 : decode cL_law 235 = .ok (.aload_n 0, 1) := by decide +kernel
theorem dL_law_236 : decode cL_law 236 = .ok (.iload_n 3, 1) := by decide +kernel
theorem dL_law_237 : decode cL_law 237 = .ok (.iconst 1, 1) := by decide +kernel
theorem dL_law_238 : decode cL_law 238 = .ok (.iadd, 1) := by decide +kernel
theorem dL_law_239 : decode cL_law 239 = .ok (.iaload, 1) := by decide +kernel
theorem dL_law_240 : decode cL_law 240 = .ok (.aload_n 0, 1) := by decide +kernel
theorem dL_law_241 : decode cL_law 241 = .ok (.iload_n 3, 1) := by decide +kernel
theorem dL_law_242 : decode cL_law 242 = .ok (.iconst 2, 1) := by decide +kernel
theorem dL_law_243 : decode cL_law 243 = .ok (.iadd, 1) := by decide +kernel
theorem dL_law_244 : decode cL_law 244 = .ok (.iaload, 1) := by decide +kernel
theorem dL_law_245 : decode cL_law 245 = .ok (.invokevirtual 35, 3) := by decide +kernel
theorem dL_law_248 : decode cL_law 248 = .ok (.if_icmp .eq 535, 3) := by decide +kernel
theorem dL_law_251 : decode cL_law 251 = .ok (.iconst 0, 1) := by decide +kernel
theorem dL_law_252 : decode cL_law 252 = .ok (.ireturn, 1) := by decide +kernel
theorem dL_law_253 : decode cL_law 253 = .ok (.aload_n 1, 1) := by decide +kernel
theorem dL_law_254 : decode cL_law 254 = .ok (.aload_n 0, 1) := by decide +kernel
theorem dL_law_255 : decode cL_law 255 = .ok (.iload_n 3, 1) := by decide +kernel
theorem dL_law_256 : decode cL_law 256 = .ok (.iconst 1, 1) := by decide +kernel
theorem dL_law_257 : decode cL_law 257 = .ok (.iadd, 1) := by decide +kernel
theorem dL_law_258 : decode cL_law 258 = .ok (.iaload, 1) := by decide +kernel
theorem dL_law_259 : decode cL_law 259 = .ok (.aload_n 0, 1) := by decide +kernel
theorem dL_law_260 : decode cL_law 260 = .ok (.iload_n 3, 1) := by decide +kernel
theorem dL_law_261 : decode cL_law 261 = .ok (.iconst 2, 1) := by decide +kernel
theorem dL_law_262 : decode cL_law 262 = .ok (.iadd, 1) := by decide +kernel
theorem dL_law_263 : decode cL_law 263 = .ok (.iaload, 1) := by decide +kernel
theorem dL_law_264 : decode cL_law 264 = .ok (.invokevirtual 36, 3) := by decide +kernel
theorem dL_law_267 : decode cL_law 267 = .ok (.aload_n 2, 1) := by decide +kernel
theorem dL_law_268 : decode cL_law 268 = .ok (.aload_n 0, 1) := by decide +kernel
theorem dL_law_269 : decode cL_law 269 = .ok (.iload_n 3, 1) := by decide +kernel
theorem dL_law_270 : decode cL_law 270 = .ok (.iconst 1, 1) := by decide +kernel
theorem dL_law_271 : decode cL_law 271 = .ok (.iadd, 1) := by decide +kernel
theorem dL_law_272 : decode cL_law 272 = .ok (.iaload, 1) := by decide +kernel
theorem dL_law_273 : decode cL_law 273 = .ok (.aload_n 0, 1) := by decide +kernel
theorem dL_law_274 : decode cL_law 274 = .ok (.iload_n 3, 1) := by decide +kernel
theorem dL_law_275 : decode cL_law 275 = .ok (.iconst 2, 1) := by decide +kernel
theorem dL_law_276 : decode cL_law 276 = .ok (.iadd, 1) := by decide +kernel
theorem dL_law_277 : decode cL_law 277 = .ok (.iaload, 1) := by decide +kernel
theorem dL_law_278 : decode cL_law 278 = .ok (.invokevirtual 39, 3) := by decide +kernel
theorem dL_law_281 : decode cL_law 281 = .ok (.if_icmp .eq 502, 3) := by decide +kernel
theorem dL_law_284 : decode cL_law 284 = .ok (.iconst 0, 1) := by decide +kernel
theorem dL_law_285 : decode cL_law 285 = .ok (.ireturn, 1) := by decide +kernel
theorem dL_law_286 : decode cL_law 286 = .ok (.aload_n 1, 1) := by decide +kernel
theorem dL_law_287 : decode cL_law 287 = .ok (.aload_n 0, 1) := by decide +kernel
theorem dL_law_288 : decode cL_law 288 = .ok (.iload_n 3, 1) := by decide +kernel
theorem dL_law_289 : decode cL_law 289 = .ok (.iconst 1, 1) := by decide +kernel
theorem dL_law_290 : decode cL_law 290 = .ok (.iadd, 1) := by decide +kernel
theorem dL_law_291 : decode cL_law 291 = .ok (.iaload, 1) := by decide +kernel
theorem dL_law_292 : decode cL_law 292 = .ok (.aload_n 0, 1) := by decide +kernel
theorem dL_law_293 : decode cL_law 293 = .ok (.iload_n 3, 1) := by decide +kernel
theorem dL_law_294 : decode cL_law 294 = .ok (.iconst 2, 1) := by decide +kernel
theorem dL_law_295 : decode cL_law 295 = .ok (.iadd, 1) := by decide +kernel
theorem dL_law_296 : decode cL_law 296 = .ok (.iaload, 1) := by decide +kernel
theorem dL_law_297 : decode cL_law 297 = .ok (.invokevirtual 40, 3) := by decide +kernel
theorem dL_law_300 : decode cL_law 300 = .ok (.aload_n 2, 1) := by decide +kernel
theorem dL_law_301 : decode cL_law 301 = .ok (.aload_n 0, 1) := by decide +kernel
theorem dL_law_302 : decode cL_law 302 = .ok (.iload_n 3, 1) := by decide +kernel
theorem dL_law_303 : decode cL_law 303 = .ok (.iconst 1, 1) := by decide +kernel
theorem dL_law_304 : decode cL_law 304 = .ok (.iadd, 1) := by decide +kernel
theorem dL_law_305 : decode cL_law 305 = .ok (.iaload, 1) := by decide +kernel
theorem dL_law_306 : decode cL_law 306 = .ok (.aload_n 0, 1) := by decide +kernel
theorem dL_law_307 : decode cL_law 307 = .ok (.iload_n 3, 1) := by decide +kernel
theorem dL_law_308 : decode cL_law 308 = .ok (.iconst 2, 1) := by decide +kernel
theorem dL_law_309 : decode cL_law 309 = .ok (.iadd, 1) := by decide +kernel
theorem dL_law_310 : decode cL_law 310 = .ok (.iaload, 1) := by decide +kernel
theorem dL_law_311 : decode cL_law 311 = .ok (.invokevirtual 43, 3) := by decide +kernel
theorem dL_law_314 : decode cL_law 314 = .ok (.if_icmp .eq 469, 3) := by decide +kernel
theorem dL_law_317 : decode cL_law 317 = .ok (.iconst 0, 1) := by decide +kernel
theorem dL_law_318 : decode cL_law 318 = .ok (.ireturn, 1) := by decide +kernel
theorem dL_law_319 : decode cL_law 319 = .ok (.aload_n 1, 1) := by decide +kernel
theorem dL_law_320 : decode cL_law 320 = .ok (.aload_n 0, 1) := by decide +kernel
theorem dL_law_321 : decode cL_law 321 = .ok (.iload_n 3, 1) := by decide +kernel
theorem dL_law_322 : decode cL_law 322 = .ok (.iconst 1, 1) := by decide +kernel
theorem dL_law_323 : decode cL_law 323 = .ok (.iadd, 1) := by decide +kernel
theorem dL_law_324 : decode cL_law 324 = .ok (.iaload, 1) := by decide +kernel
theorem dL_law_325 : decode cL_law 325 = .ok (.aload_n 0, 1) := by decide +kernel
theorem dL_law_326 : decode cL_law 326 = .ok (.iload_n 3, 1) := by decide +kernel
theorem dL_law_327 : decode cL_law 327 = .ok (.iconst 2, 1) := by decide +kernel
theorem dL_law_328 : decode cL_law 328 = .ok (.iadd, 1) := by decide +kernel
theorem dL_law_329 : decode cL_law 329 = .ok (.iaload, 1) := by decide +kernel
theorem dL_law_330 : decode cL_law 330 = .ok (.invokevirtual 44, 3) := by decide +kernel
theorem dL_law_333 : decode cL_law 333 = .ok (.aload_n 2, 1) := by decide +kernel
theorem dL_law_334 : decode cL_law 334 = .ok (.aload_n 0, 1) := by decide +kernel
theorem dL_law_335 : decode cL_law 335 = .ok (.iload_n 3, 1) := by decide +kernel
theorem dL_law_336 : decode cL_law 336 = .ok (.iconst 1, 1) := by decide +kernel
theorem dL_law_337 : decode cL_law 337 = .ok (.iadd, 1) := by decide +kernel
theorem dL_law_338 : decode cL_law 338 = .ok (.iaload, 1) := by decide +kernel
theorem dL_law_339 : decode cL_law 339 = .ok (.aload_n 0, 1) := by decide +kernel
theorem dL_law_340 : decode cL_law 340 = .ok (.iload_n 3, 1) := by decide +kernel
theorem dL_law_341 : decode cL_law 341 = .ok (.iconst 2, 1) := by decide +kernel
theorem dL_law_342 : decode cL_law 342 = .ok (.iadd, 1) := by decide +kernel
theorem dL_law_343 : decode cL_law 343 = .ok (.iaload, 1) := by decide +kernel
theorem dL_law_344 : decode cL_law 344 = .ok (.invokevirtual 47, 3) := by decide +kernel
theorem dL_law_347 : decode cL_law 347 = .ok (.if_icmp .eq 436, 3) := by decide +kernel
theorem dL_law_350 : decode cL_law 350 = .ok (.iconst 0, 1) := by decide +kernel
theorem dL_law_351 : decode cL_law 351 = .ok (.ireturn, 1) := by decide +kernel
theorem dL_law_352 : decode cL_law 352 = .ok (.aload_n 1, 1) := by decide +kernel
theorem dL_law_353 : decode cL_law 353 = .ok (.aload_n 0, 1) := by decide +kernel
theorem dL_law_354 : decode cL_law 354 = .ok (.iload_n 3, 1) := by decide +kernel
theorem dL_law_355 : decode cL_law 355 = .ok (.iconst 1, 1) := by decide +kernel
theorem dL_law_356 : decode cL_law 356 = .ok (.iadd, 1) := by decide +kernel
theorem dL_law_357 : decode cL_law 357 = .ok (.iaload, 1) := by decide +kernel
theorem dL_law_358 : decode cL_law 358 = .ok (.invokevirtual 48, 3) := by decide +kernel
theorem dL_law_361 : decode cL_law 361 = .ok (.aload_n 2, 1) := by decide +kernel
theorem dL_law_362 : decode cL_law 362 = .ok (.aload_n 0, 1) := by decide +kernel
theorem dL_law_363 : decode cL_law 363 = .ok (.iload_n 3, 1) := by decide +kernel
theorem dL_law_364 : decode cL_law 364 = .ok (.iconst 1, 1) := by decide +kernel
theorem dL_law_365 : decode cL_law 365 = .ok (.iadd, 1) := by decide +kernel
theorem dL_law_366 : decode cL_law 366 = .ok (.iaload, 1) := by decide +kernel
theorem dL_law_367 : decode cL_law 367 = .ok (.invokevirtual 51, 3) := by decide +kernel
theorem dL_law_370 : decode cL_law 370 = .ok (.if_icmp .eq 413, 3) := by decide +kernel
theorem dL_law_373 : decode cL_law 373 = .ok (.iconst 0, 1) := by decide +kernel
theorem dL_law_374 : decode cL_law 374 = .ok (.ireturn, 1) := by decide +kernel
theorem dL_law_375 : decode cL_law 375 = .ok (.aload_n 1, 1) := by decide +kernel
theorem dL_law_376 : decode cL_law 376 = .ok (.aload_n 0, 1) := by decide +kernel
theorem dL_law_377 : decode cL_law 377 = .ok (.iload_n 3, 1) := by decide +kernel
theorem dL_law_378 : decode cL_law 378 = .ok (.iconst 1, 1) := by decide +kernel
theorem dL_law_379 : decode cL_law 379 = .ok (.iadd, 1) := by decide +kernel
theorem dL_law_380 : decode cL_law 380 = .ok (.iaload, 1) := by decide +kernel
theorem dL_law_381 : decode cL_law 381 = .ok (.aload_n 0, 1) := by decide +kernel
theorem dL_law_382 : decode cL_law 382 = .ok (.iload_n 3, 1) := by decide +kernel
theorem dL_law_383 : decode cL_law 383 = .ok (.iconst 2, 1) := by decide +kernel
theorem dL_law_384 : decode cL_law 384 = .ok (.iadd, 1) := by decide +kernel
theorem dL_law_385 : decode cL_law 385 = .ok (.iaload, 1) := by decide +kernel
theorem dL_law_386 : decode cL_law 386 = .ok (.invokevirtual 52, 3) := by decide +kernel
theorem dL_law_389 : decode cL_law 389 = .ok (.aload_n 2, 1) := by decide +kernel
theorem dL_law_390 : decode cL_law 390 = .ok (.aload_n 0, 1) := by decide +kernel
theorem dL_law_391 : decode cL_law 391 = .ok (.iload_n 3, 1) := by decide +kernel
theorem dL_law_392 : decode cL_law 392 = .ok (.iconst 1, 1) := by decide +kernel
theorem dL_law_393 : decode cL_law 393 = .ok (.iadd, 1) := by decide +kernel
theorem dL_law_394 : decode cL_law 394 = .ok (.iaload, 1) := by decide +kernel
theorem dL_law_395 : decode cL_law 395 = .ok (.aload_n 0, 1) := by decide +kernel
theorem dL_law_396 : decode cL_law 396 = .ok (.iload_n 3, 1) := by decide +kernel
theorem dL_law_397 : decode cL_law 397 = .ok (.iconst 2, 1) := by decide +kernel
theorem dL_law_398 : decode cL_law 398 = .ok (.iadd, 1) := by decide +kernel
theorem dL_law_399 : decode cL_law 399 = .ok (.iaload, 1) := by decide +kernel
theorem dL_law_400 : decode cL_law 400 = .ok (.invokevirtual 55, 3) := by decide +kernel
theorem dL_law_403 : decode cL_law 403 = .ok (.if_icmp .eq 380, 3) := by decide +kernel
theorem dL_law_406 : decode cL_law 406 = .ok (.iconst 0, 1) := by decide +kernel
theorem dL_law_407 : decode cL_law 407 = .ok (.ireturn, 1) := by decide +kernel
theorem dL_law_408 : decode cL_law 408 = .ok (.aload_n 1, 1) := by decide +kernel
theorem dL_law_409 : decode cL_law 409 = .ok (.aload_n 0, 1) := by decide +kernel
theorem dL_law_410 : decode cL_law 410 = .ok (.iload_n 3, 1) := by decide +kernel
theorem dL_law_411 : decode cL_law 411 = .ok (.iconst 1, 1) := by decide +kernel
theorem dL_law_412 : decode cL_law 412 = .ok (.iadd, 1) := by decide +kernel
theorem dL_law_413 : decode cL_law 413 = .ok (.iaload, 1) := by decide +kernel
theorem dL_law_414 : decode cL_law 414 = .ok (.aload_n 0, 1) := by decide +kernel
theorem dL_law_415 : decode cL_law 415 = .ok (.iload_n 3, 1) := by decide +kernel
theorem dL_law_416 : decode cL_law 416 = .ok (.iconst 2, 1) := by decide +kernel
theorem dL_law_417 : decode cL_law 417 = .ok (.iadd, 1) := by decide +kernel
theorem dL_law_418 : decode cL_law 418 = .ok (.iaload, 1) := by decide +kernel
theorem dL_law_419 : decode cL_law 419 = .ok (.invokevirtual 56, 3) := by decide +kernel
theorem dL_law_422 : decode cL_law 422 = .ok (.aload_n 2, 1) := by decide +kernel
theorem dL_law_423 : decode cL_law 423 = .ok (.aload_n 0, 1) := by decide +kernel
theorem dL_law_424 : decode cL_law 424 = .ok (.iload_n 3, 1) := by decide +kernel
theorem dL_law_425 : decode cL_law 425 = .ok (.iconst 1, 1) := by decide +kernel
theorem dL_law_426 : decode cL_law 426 = .ok (.iadd, 1) := by decide +kernel
theorem dL_law_427 : decode cL_law 427 = .ok (.iaload, 1) := by decide +kernel
theorem dL_law_428 : decode cL_law 428 = .ok (.aload_n 0, 1) := by decide +kernel
theorem dL_law_429 : decode cL_law 429 = .ok (.iload_n 3, 1) := by decide +kernel
theorem dL_law_430 : decode cL_law 430 = .ok (.iconst 2, 1) := by decide +kernel
theorem dL_law_431 : decode cL_law 431 = .ok (.iadd, 1) := by decide +kernel
theorem dL_law_432 : decode cL_law 432 = .ok (.iaload, 1) := by decide +kernel
theorem dL_law_433 : decode cL_law 433 = .ok (.invokevirtual 59, 3) := by decide +kernel
theorem dL_law_436 : decode cL_law 436 = .ok (.if_icmp .eq 347, 3) := by decide +kernel
theorem dL_law_439 : decode cL_law 439 = .ok (.iconst 0, 1) := by decide +kernel
theorem dL_law_440 : decode cL_law 440 = .ok (.ireturn, 1) := by decide +kernel
theorem dL_law_441 : decode cL_law 441 = .ok (.aload_n 1, 1) := by decide +kernel
theorem dL_law_442 : decode cL_law 442 = .ok (.aload_n 0, 1) := by decide +kernel
theorem dL_law_443 : decode cL_law 443 = .ok (.iload_n 3, 1) := by decide +kernel
theorem dL_law_444 : decode cL_law 444 = .ok (.iconst 1, 1) := by decide +kernel
theorem dL_law_445 : decode cL_law 445 = .ok (.iadd, 1) := by decide +kernel
theorem dL_law_446 : decode cL_law 446 = .ok (.iaload, 1) := by decide +kernel
theorem dL_law_447 : decode cL_law 447 = .ok (.invokevirtual 60, 3) := by decide +kernel
theorem dL_law_450 : decode cL_law 450 = .ok (.aload_n 2, 1) := by decide +kernel
theorem dL_law_451 : decode cL_law 451 = .ok (.aload_n 0, 1) := by decide +kernel
theorem dL_law_452 : decode cL_law 452 = .ok (.iload_n 3, 1) := by decide +kernel
theorem dL_law_453 : decode cL_law 453 = .ok (.iconst 1, 1) := by decide +kernel
theorem dL_law_454 : decode cL_law 454 = .ok (.iadd, 1) := by decide +kernel
theorem dL_law_455 : decode cL_law 455 = .ok (.iaload, 1) := by decide +kernel
theorem dL_law_456 : decode cL_law 456 = .ok (.invokevirtual 63, 3) := by decide +kernel
theorem dL_law_459 : decode cL_law 459 = .ok (.if_icmp .eq 324, 3) := by decide +kernel
theorem dL_law_462 : decode cL_law 462 = .ok (.iconst 0, 1) := by decide +kernel
theorem dL_law_463 : decode cL_law 463 = .ok (.ireturn, 1) := by decide +kernel
theorem dL_law_464 : decode cL_law 464 = .ok (.aload_n 1, 1) := by decide +kernel
theorem dL_law_465 : decode cL_law 465 = .ok (.invokevirtual 64, 3) := by decide +kernel
theorem dL_law_468 : decode cL_law 468 = .ok (.aload_n 2, 1) := by decide +kernel
theorem dL_law_469 : decode cL_law 469 = .ok (.invokevirtual 67, 3) := by decide +kernel
theorem dL_law_472 : decode cL_law 472 = .ok (.if_icmp .eq 311, 3) := by decide +kernel
theorem dL_law_475 : decode cL_law 475 = .ok (.iconst 0, 1) := by decide +kernel
theorem dL_law_476 : decode cL_law 476 = .ok (.ireturn, 1) := by decide +kernel
theorem dL_law_477 : decode cL_law 477 = .ok (.aload_n 1, 1) := by decide +kernel
theorem dL_law_478 : decode cL_law 478 = .ok (.aload_n 0, 1) := by decide +kernel
theorem dL_law_479 : decode cL_law 479 = .ok (.iload_n 3, 1) := by decide +kernel
theorem dL_law_480 : decode cL_law 480 = .ok (.iconst 1, 1) := by decide +kernel
theorem dL_law_481 : decode cL_law 481 = .ok (.iadd, 1) := by decide +kernel
theorem dL_law_482 : decode cL_law 482 = .ok (.iaload, 1) := by decide +kernel
theorem dL_law_483 : decode cL_law 483 = .ok (.aload_n 0, 1) := by decide +kernel
theorem dL_law_484 : decode cL_law 484 = .ok (.iload_n 3, 1) := by decide +kernel
theorem dL_law_485 : decode cL_law 485 = .ok (.iconst 2, 1) := by decide +kernel
theorem dL_law_486 : decode cL_law 486 = .ok (.iadd, 1) := by decide +kernel
theorem dL_law_487 : decode cL_law 487 = .ok (.iaload, 1) := by decide +kernel
theorem dL_law_488 : decode cL_law 488 = .ok (.aload_n 0, 1) := by decide +kernel
theorem dL_law_489 : decode cL_law 489 = .ok (.iload_n 3, 1) := by decide +kernel
theorem dL_law_490 : decode cL_law 490 = .ok (.iconst 3, 1) := by decide +kernel
theorem dL_law_491 : decode cL_law 491 = .ok (.iadd, 1) := by decide +kernel
theorem dL_law_492 : decode cL_law 492 = .ok (.iaload, 1) := by decide +kernel
theorem dL_law_493 : decode cL_law 493 = .ok (.invokevirtual 68, 3) := by decide +kernel
theorem dL_law_496 : decode cL_law 496 = .ok (.aload_n 2, 1) := by decide +kernel
theorem dL_law_497 : decode cL_law 497 = .ok (.aload_n 0, 1) := by decide +kernel
theorem dL_law_498 : decode cL_law 498 = .ok (.iload_n 3, 1) := by decide +kernel
theorem dL_law_499 : decode cL_law 499 = .ok (.iconst 1, 1) := by decide +kernel
theorem dL_law_500 : decode cL_law 500 = .ok (.iadd, 1) := by decide +kernel
theorem dL_law_501 : decode cL_law 501 = .ok (.iaload, 1) := by decide +kernel
theorem dL_law_502 : decode cL_law 502 = .ok (.aload_n 0, 1) := by decide +kernel
theorem dL_law_503 : decode cL_law 503 = .ok (.iload_n 3, 1) := by decide +kernel
theorem dL_law_504 : decode cL_law 504 = .ok (.iconst 2, 1) := by decide +kernel
theorem dL_law_505 : decode cL_law 505 = .ok (.iadd, 1) := by decide +kernel
theorem dL_law_506 : decode cL_law 506 = .ok (.iaload, 1) := by decide +kernel
theorem dL_law_507 : decode cL_law 507 = .ok (.aload_n 0, 1) := by decide +kernel
theorem dL_law_508 : decode cL_law 508 = .ok (.iload_n 3, 1) := by decide +kernel
theorem dL_law_509 : decode cL_law 509 = .ok (.iconst 3, 1) := by decide +kernel
theorem dL_law_510 : decode cL_law 510 = .ok (.iadd, 1) := by decide +kernel
theorem dL_law_511 : decode cL_law 511 = .ok (.iaload, 1) := by decide +kernel
theorem dL_law_512 : decode cL_law 512 = .ok (.invokevirtual 72, 3) := by decide +kernel
theorem dL_law_515 : decode cL_law 515 = .ok (.if_icmp .eq 268, 3) := by decide +kernel
theorem dL_law_518 : decode cL_law 518 = .ok (.iconst 0, 1) := by decide +kernel
theorem dL_law_519 : decode cL_law 519 = .ok (.ireturn, 1) := by decide +kernel
theorem dL_law_520 : decode cL_law 520 = .ok (.aload_n 1, 1) := by decide +kernel
theorem dL_law_521 : decode cL_law 521 = .ok (.aload_n 0, 1) := by decide +kernel
theorem dL_law_522 : decode cL_law 522 = .ok (.iload_n 3, 1) := by decide +kernel
theorem dL_law_523 : decode cL_law 523 = .ok (.iconst 1, 1) := by decide +kernel
theorem dL_law_524 : decode cL_law 524 = .ok (.iadd, 1) := by decide +kernel
theorem dL_law_525 : decode cL_law 525 = .ok (.iaload, 1) := by decide +kernel
theorem dL_law_526 : decode cL_law 526 = .ok (.invokevirtual 73, 3) := by decide +kernel
theorem dL_law_529 : decode cL_law 529 = .ok (.aload_n 2, 1) := by decide +kernel
theorem dL_law_530 : decode cL_law 530 = .ok (.aload_n 0, 1) := by decide +kernel
theorem dL_law_531 : decode cL_law 531 = .ok (.iload_n 3, 1) := by decide +kernel
theorem dL_law_532 : decode cL_law 532 = .ok (.iconst 1, 1) := by decide +kernel
theorem dL_law_533 : decode cL_law 533 = .ok (.iadd, 1) := by decide +kernel
theorem dL_law_534 : decode cL_law 534 = .ok (.iaload, 1) := by decide +kernel
theorem dL_law_535 : decode cL_law 535 = .ok (.invokevirtual 76, 3) := by decide +kernel
theorem dL_law_538 : decode cL_law 538 = .ok (.if_icmp .eq 245, 3) := by decide +kernel
theorem dL_law_541 : decode cL_law 541 = .ok (.iconst 0, 1) := by decide +kernel
theorem dL_law_542 : decode cL_law 542 = .ok (.ireturn, 1) := by decide +kernel
theorem dL_law_543 : decode cL_law 543 = .ok (.aload_n 1, 1) := by decide +kernel
theorem dL_law_544 : decode cL_law 544 = .ok (.aload_n 0, 1) := by decide +kernel
theorem dL_law_545 : decode cL_law 545 = .ok (.iload_n 3, 1) := by decide +kernel
theorem dL_law_546 : decode cL_law 546 = .ok (.iconst 1, 1) := by decide +kernel
theorem dL_law_547 : decode cL_law 547 = .ok (.iadd, 1) := by decide +kernel
theorem dL_law_548 : decode cL_law 548 = .ok (.iaload, 1) := by decide +kernel
theorem dL_law_549 : decode cL_law 549 = .ok (.invokevirtual 77, 3) := by decide +kernel
theorem dL_law_552 : decode cL_law 552 = .ok (.aload_n 2, 1) := by decide +kernel
theorem dL_law_553 : decode cL_law 553 = .ok (.aload_n 0, 1) := by decide +kernel
theorem dL_law_554 : decode cL_law 554 = .ok (.iload_n 3, 1) := by decide +kernel
theorem dL_law_555 : decode cL_law 555 = .ok (.iconst 1, 1) := by decide +kernel
theorem dL_law_556 : decode cL_law 556 = .ok (.iadd, 1) := by decide +kernel
theorem dL_law_557 : decode cL_law 557 = .ok (.iaload, 1) := by decide +kernel
theorem dL_law_558 : decode cL_law 558 = .ok (.invokevirtual 80, 3) := by decide +kernel
theorem dL_law_561 : decode cL_law 561 = .ok (.if_icmp .eq 222, 3) := by decide +kernel
theorem dL_law_564 : decode cL_law 564 = .ok (.iconst 0, 1) := by decide +kernel
theorem dL_law_565 : decode cL_law 565 = .ok (.ireturn, 1) := by decide +kernel
theorem dL_law_566 : decode cL_law 566 = .ok (.aload_n 1, 1) := by decide +kernel
theorem dL_law_567 : decode cL_law 567 = .ok (.aload_n 0, 1) := by decide +kernel
theorem dL_law_568 : decode cL_law 568 = .ok (.iload_n 3, 1) := by decide +kernel
theorem dL_law_569 : decode cL_law 569 = .ok (.iconst 1, 1) := by decide +kernel
theorem dL_law_570 : decode cL_law 570 = .ok (.iadd, 1) := by decide +kernel
theorem dL_law_571 : decode cL_law 571 = .ok (.iaload, 1) := by decide +kernel
theorem dL_law_572 : decode cL_law 572 = .ok (.aload_n 0, 1) := by decide +kernel
theorem dL_law_573 : decode cL_law 573 = .ok (.iload_n 3, 1) := by decide +kernel
theorem dL_law_574 : decode cL_law 574 = .ok (.iconst 2, 1) := by decide +kernel
theorem dL_law_575 : decode cL_law 575 = .ok (.iadd, 1) := by decide +kernel
theorem dL_law_576 : decode cL_law 576 = .ok (.iaload, 1) := by decide +kernel
theorem dL_law_577 : decode cL_law 577 = .ok (.invokevirtual 81, 3) := by decide +kernel
theorem dL_law_580 : decode cL_law 580 = .ok (.aload_n 2, 1) := by decide +kernel
theorem dL_law_581 : decode cL_law 581 = .ok (.aload_n 0, 1) := by decide +kernel
theorem dL_law_582 : decode cL_law 582 = .ok (.iload_n 3, 1) := by decide +kernel
theorem dL_law_583 : decode cL_law 583 = .ok (.iconst 1, 1) := by decide +kernel
theorem dL_law_584 : decode cL_law 584 = .ok (.iadd, 1) := by decide +kernel
theorem dL_law_585 : decode cL_law 585 = .ok (.iaload, 1) := by decide +kernel
theorem dL_law_586 : decode cL_law 586 = .ok (.aload_n 0, 1) := by decide +kernel
theorem dL_law_587 : decode cL_law 587 = .ok (.iload_n 3, 1) := by decide +kernel
theorem dL_law_588 : decode cL_law 588 = .ok (.iconst 2, 1) := by decide +kernel
theorem dL_law_589 : decode cL_law 589 = .ok (.iadd, 1) := by decide +kernel
theorem dL_law_590 : decode cL_law 590 = .ok (.iaload, 1) := by decide +kernel
theorem dL_law_591 : decode cL_law 591 = .ok (.invokevirtual 84, 3) := by decide +kernel
theorem dL_law_594 : decode cL_law 594 = .ok (.if_icmp .eq 189, 3) := by decide +kernel
theorem dL_law_597 : decode cL_law 597 = .ok (.iconst 0, 1) := by decide +kernel
theorem dL_law_598 : decode cL_law 598 = .ok (.ireturn, 1) := by decide +kernel
theorem dL_law_599 : decode cL_law 599 = .ok (.aload_n 1, 1) := by decide +kernel
theorem dL_law_600 : decode cL_law 600 = .ok (.aload_n 0, 1) := by decide +kernel
theorem dL_law_601 : decode cL_law 601 = .ok (.iload_n 3, 1) := by decide +kernel
theorem dL_law_602 : decode cL_law 602 = .ok (.iconst 1, 1) := by decide +kernel
theorem dL_law_603 : decode cL_law 603 = .ok (.iadd, 1) := by decide +kernel
theorem dL_law_604 : decode cL_law 604 = .ok (.iaload, 1) := by decide +kernel
theorem dL_law_605 : decode cL_law 605 = .ok (.aload_n 0, 1) := by decide +kernel
theorem dL_law_606 : decode cL_law 606 = .ok (.iload_n 3, 1) := by decide +kernel
theorem dL_law_607 : decode cL_law 607 = .ok (.iconst 2, 1) := by decide +kernel
theorem dL_law_608 : decode cL_law 608 = .ok (.iadd, 1) := by decide +kernel
theorem dL_law_609 : decode cL_law 609 = .ok (.iaload, 1) := by decide +kernel
theorem dL_law_610 : decode cL_law 610 = .ok (.invokevirtual 85, 3) := by decide +kernel
theorem dL_law_613 : decode cL_law 613 = .ok (.aload_n 2, 1) := by decide +kernel
theorem dL_law_614 : decode cL_law 614 = .ok (.aload_n 0, 1) := by decide +kernel
theorem dL_law_615 : decode cL_law 615 = .ok (.iload_n 3, 1) := by decide +kernel
theorem dL_law_616 : decode cL_law 616 = .ok (.iconst 1, 1) := by decide +kernel
theorem dL_law_617 : decode cL_law 617 = .ok (.iadd, 1) := by decide +kernel
theorem dL_law_618 : decode cL_law 618 = .ok (.iaload, 1) := by decide +kernel
theorem dL_law_619 : decode cL_law 619 = .ok (.aload_n 0, 1) := by decide +kernel
theorem dL_law_620 : decode cL_law 620 = .ok (.iload_n 3, 1) := by decide +kernel
theorem dL_law_621 : decode cL_law 621 = .ok (.iconst 2, 1) := by decide +kernel
theorem dL_law_622 : decode cL_law 622 = .ok (.iadd, 1) := by decide +kernel
theorem dL_law_623 : decode cL_law 623 = .ok (.iaload, 1) := by decide +kernel
theorem dL_law_624 : decode cL_law 624 = .ok (.invokevirtual 88, 3) := by decide +kernel
theorem dL_law_627 : decode cL_law 627 = .ok (.if_icmp .eq 156, 3) := by decide +kernel
theorem dL_law_630 : decode cL_law 630 = .ok (.iconst 0, 1) := by decide +kernel
theorem dL_law_631 : decode cL_law 631 = .ok (.ireturn, 1) := by decide +kernel
theorem dL_law_632 : decode cL_law 632 = .ok (.aload_n 1, 1) := by decide +kernel
theorem dL_law_633 : decode cL_law 633 = .ok (.aload_n 0, 1) := by decide +kernel
theorem dL_law_634 : decode cL_law 634 = .ok (.iload_n 3, 1) := by decide +kernel
theorem dL_law_635 : decode cL_law 635 = .ok (.iconst 1, 1) := by decide +kernel
theorem dL_law_636 : decode cL_law 636 = .ok (.iadd, 1) := by decide +kernel
theorem dL_law_637 : decode cL_law 637 = .ok (.iaload, 1) := by decide +kernel
theorem dL_law_638 : decode cL_law 638 = .ok (.invokevirtual 89, 3) := by decide +kernel
theorem dL_law_641 : decode cL_law 641 = .ok (.aload_n 2, 1) := by decide +kernel
theorem dL_law_642 : decode cL_law 642 = .ok (.aload_n 0, 1) := by decide +kernel
theorem dL_law_643 : decode cL_law 643 = .ok (.iload_n 3, 1) := by decide +kernel
theorem dL_law_644 : decode cL_law 644 = .ok (.iconst 1, 1) := by decide +kernel
theorem dL_law_645 : decode cL_law 645 = .ok (.iadd, 1) := by decide +kernel
theorem dL_law_646 : decode cL_law 646 = .ok (.iaload, 1) := by decide +kernel
theorem dL_law_647 : decode cL_law 647 = .ok (.invokevirtual 92, 3) := by decide +kernel
theorem dL_law_650 : decode cL_law 650 = .ok (.if_icmp .eq 133, 3) := by decide +kernel
theorem dL_law_653 : decode cL_law 653 = .ok (.iconst 0, 1) := by decide +kernel
theorem dL_law_654 : decode cL_law 654 = .ok (.ireturn, 1) := by decide +kernel
theorem dL_law_655 : decode cL_law 655 = .ok (.aload_n 1, 1) := by decide +kernel
theorem dL_law_656 : decode cL_law 656 = .ok (.aload_n 0, 1) := by decide +kernel
theorem dL_law_657 : decode cL_law 657 = .ok (.iload_n 3, 1) := by decide +kernel
theorem dL_law_658 : decode cL_law 658 = .ok (.iconst 1, 1) := by decide +kernel
theorem dL_law_659 : decode cL_law 659 = .ok (.iadd, 1) := by decide +kernel
theorem dL_law_660 : decode cL_law 660 = .ok (.iaload, 1) := by decide +kernel
theorem dL_law_661 : decode cL_law 661 = .ok (.aload_n 0, 1) := by decide +kernel
theorem dL_law_662 : decode cL_law 662 = .ok (.iload_n 3, 1) := by decide +kernel
theorem dL_law_663 : decode cL_law 663 = .ok (.iconst 2, 1) := by decide +kernel
theorem dL_law_664 : decode cL_law 664 = .ok (.iadd, 1) := by decide +kernel
theorem dL_law_665 : decode cL_law 665 = .ok (.iaload, 1) := by decide +kernel
theorem dL_law_666 : decode cL_law 666 = .ok (.invokevirtual 93, 3) := by decide +kernel
theorem dL_law_669 : decode cL_law 669 = .ok (.aload_n 2, 1) := by decide +kernel
theorem dL_law_670 : decode cL_law 670 = .ok (.aload_n 0, 1) := by decide +kernel
theorem dL_law_671 : decode cL_law 671 = .ok (.iload_n 3, 1) := by decide +kernel
theorem dL_law_672 : decode cL_law 672 = .ok (.iconst 1, 1) := by decide +kernel
theorem dL_law_673 : decode cL_law 673 = .ok (.iadd, 1) := by decide +kernel
theorem dL_law_674 : decode cL_law 674 = .ok (.iaload, 1) := by decide +kernel
theorem dL_law_675 : decode cL_law 675 = .ok (.aload_n 0, 1) := by decide +kernel
theorem dL_law_676 : decode cL_law 676 = .ok (.iload_n 3, 1) := by decide +kernel
theorem dL_law_677 : decode cL_law 677 = .ok (.iconst 2, 1) := by decide +kernel
theorem dL_law_678 : decode cL_law 678 = .ok (.iadd, 1) := by decide +kernel
theorem dL_law_679 : decode cL_law 679 = .ok (.iaload, 1) := by decide +kernel
theorem dL_law_680 : decode cL_law 680 = .ok (.invokevirtual 96, 3) := by decide +kernel
theorem dL_law_683 : decode cL_law 683 = .ok (.if_icmp .eq 100, 3) := by decide +kernel
theorem dL_law_686 : decode cL_law 686 = .ok (.iconst 0, 1) := by decide +kernel
theorem dL_law_687 : decode cL_law 687 = .ok (.ireturn, 1) := by decide +kernel
theorem dL_law_688 : decode cL_law 688 = .ok (.aload_n 1, 1) := by decide +kernel
theorem dL_law_689 : decode cL_law 689 = .ok (.invokevirtual 97, 3) := by decide +kernel
theorem dL_law_692 : decode cL_law 692 = .ok (.aload_n 2, 1) := by decide +kernel
theorem dL_law_693 : decode cL_law 693 = .ok (.invokevirtual 100, 3) := by decide +kernel
theorem dL_law_696 : decode cL_law 696 = .ok (.if_icmp .eq 87, 3) := by decide +kernel
theorem dL_law_699 : decode cL_law 699 = .ok (.iconst 0, 1) := by decide +kernel
theorem dL_law_700 : decode cL_law 700 = .ok (.ireturn, 1) := by decide +kernel
theorem dL_law_701 : decode cL_law 701 = .ok (.aload_n 1, 1) := by decide +kernel
theorem dL_law_702 : decode cL_law 702 = .ok (.invokevirtual 101, 3) := by decide +kernel
theorem dL_law_705 : decode cL_law 705 = .ok (.aload_n 2, 1) := by decide +kernel
theorem dL_law_706 : decode cL_law 706 = .ok (.invokevirtual 104, 3) := by decide +kernel
theorem dL_law_709 : decode cL_law 709 = .ok (.if_icmp .eq 74, 3) := by decide +kernel
theorem dL_law_712 : decode cL_law 712 = .ok (.iconst 0, 1) := by decide +kernel
theorem dL_law_713 : decode cL_law 713 = .ok (.ireturn, 1) := by decide +kernel
theorem dL_law_714 : decode cL_law 714 = .ok (.aload_n 1, 1) := by decide +kernel
theorem dL_law_715 : decode cL_law 715 = .ok (.aload_n 0, 1) := by decide +kernel
theorem dL_law_716 : decode cL_law 716 = .ok (.iload_n 3, 1) := by decide +kernel
theorem dL_law_717 : decode cL_law 717 = .ok (.iconst 1, 1) := by decide +kernel
theorem dL_law_718 : decode cL_law 718 = .ok (.iadd, 1) := by decide +kernel
theorem dL_law_719 : decode cL_law 719 = .ok (.iaload, 1) := by decide +kernel
theorem dL_law_720 : decode cL_law 720 = .ok (.invokevirtual 105, 3) := by decide +kernel
theorem dL_law_723 : decode cL_law 723 = .ok (.aload_n 2, 1) := by decide +kernel
theorem dL_law_724 : decode cL_law 724 = .ok (.aload_n 0, 1) := by decide +kernel
theorem dL_law_725 : decode cL_law 725 = .ok (.iload_n 3, 1) := by decide +kernel
theorem dL_law_726 : decode cL_law 726 = .ok (.iconst 1, 1) := by decide +kernel
theorem dL_law_727 : decode cL_law 727 = .ok (.iadd, 1) := by decide +kernel
theorem dL_law_728 : decode cL_law 728 = .ok (.iaload, 1) := by decide +kernel
theorem dL_law_729 : decode cL_law 729 = .ok (.invokevirtual 108, 3) := by decide +kernel
theorem dL_law_732 : decode cL_law 732 = .ok (.if_icmp .eq 51, 3) := by decide +kernel
theorem dL_law_735 : decode cL_law 735 = .ok (.iconst 0, 1) := by decide +kernel
theorem dL_law_736 : decode cL_law 736 = .ok (.ireturn, 1) := by decide +kernel
theorem dL_law_737 : decode cL_law 737 = .ok (.aload_n 1, 1) := by decide +kernel
theorem dL_law_738 : decode cL_law 738 = .ok (.aload_n 0, 1) := by decide +kernel
theorem dL_law_739 : decode cL_law 739 = .ok (.iload_n 3, 1) := by decide +kernel
theorem dL_law_740 : decode cL_law 740 = .ok (.iconst 1, 1) := by decide +kernel
theorem dL_law_741 : decode cL_law 741 = .ok (.iadd, 1) := by decide +kernel
theorem dL_law_742 : decode cL_law 742 = .ok (.iaload, 1) := by decide +kernel
theorem dL_law_743 : decode cL_law 743 = .ok (.invokevirtual 109, 3) := by decide +kernel
theorem dL_law_746 : decode cL_law 746 = .ok (.aload_n 2, 1) := by decide +kernel
theorem dL_law_747 : decode cL_law 747 = .ok (.aload_n 0, 1) := by decide +kernel
theorem dL_law_748 : decode cL_law 748 = .ok (.iload_n 3, 1) := by decide +kernel
theorem dL_law_749 : decode cL_law 749 = .ok (.iconst 1, 1) := by decide +kernel
theorem dL_law_750 : decode cL_law 750 = .ok (.iadd, 1) := by decide +kernel
theorem dL_law_751 : decode cL_law 751 = .ok (.iaload, 1) := by decide +kernel
theorem dL_law_752 : decode cL_law 752 = .ok (.invokevirtual 112, 3) := by decide +kernel
theorem dL_law_755 : decode cL_law 755 = .ok (.if_icmp .eq 28, 3) := by decide +kernel
theorem dL_law_758 : decode cL_law 758 = .ok (.iconst 0, 1) := by decide +kernel
theorem dL_law_759 : decode cL_law 759 = .ok (.ireturn, 1) := by decide +kernel
theorem dL_law_760 : decode cL_law 760 = .ok (.aload_n 1, 1) := by decide +kernel
theorem dL_law_761 : decode cL_law 761 = .ok (.aload_n 0, 1) := by decide +kernel
theorem dL_law_762 : decode cL_law 762 = .ok (.iload_n 3, 1) := by decide +kernel
theorem dL_law_763 : decode cL_law 763 = .ok (.iconst 1, 1) := by decide +kernel
theorem dL_law_764 : decode cL_law 764 = .ok (.iadd, 1) := by decide +kernel
theorem dL_law_765 : decode cL_law 765 = .ok (.iaload, 1) := by decide +kernel
theorem dL_law_766 : decode cL_law 766 = .ok (.invokevirtual 113, 3) := by decide +kernel
theorem dL_law_769 : decode cL_law 769 = .ok (.aload_n 2, 1) := by decide +kernel
theorem dL_law_770 : decode cL_law 770 = .ok (.aload_n 0, 1) := by decide +kernel
theorem dL_law_771 : decode cL_law 771 = .ok (.iload_n 3, 1) := by decide +kernel
theorem dL_law_772 : decode cL_law 772 = .ok (.iconst 1, 1) := by decide +kernel
theorem dL_law_773 : decode cL_law 773 = .ok (.iadd, 1) := by decide +kernel
theorem dL_law_774 : decode cL_law 774 = .ok (.iaload, 1) := by decide +kernel
theorem dL_law_775 : decode cL_law 775 = .ok (.invokevirtual 116, 3) := by decide +kernel
theorem dL_law_778 : decode cL_law 778 = .ok (.if_icmp .eq 5, 3) := by decide +kernel
theorem dL_law_781 : decode cL_law 781 = .ok (.iconst 0, 1) := by decide +kernel
theorem dL_law_782 : decode cL_law 782 = .ok (.ireturn, 1) := by decide +kernel
theorem dL_law_783 : decode cL_law 783 = .ok (.iinc 3 4, 3) := by decide +kernel
theorem dL_law_786 : decode cL_law 786 = .ok (.goto (-768), 3) := by decide +kernel
theorem dL_law_789 : decode cL_law 789 = .ok (.iconst 1, 1) := by decide +kernel
theorem dL_law_790 : decode cL_law 790 = .ok (.ireturn, 1) := by decide +kernel
